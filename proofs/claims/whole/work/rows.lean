section
-- ===== PART A: goes FIRST, ahead of the names: the tables' words, and 'selects' of the private methods out of them =====
/-- a private method of a class that the tables say can be made, by its rows of tables_1 -/
def lw_okq (q : MethodName × Nat) : Prop := (q.1.cls ≠ "java/lang/invoke/MethodHandle" ∧ q.1.cls ≠ "java/lang/invoke/VarHandle") ∧ Cond.instantiable q.1.cls q.2 ∈ tables_1 ∧ Cond.privateMethod q.1 ∈ tables_1 ∧ Cond.instanceMethod q.1 ∈ tables_1
theorem lw_p0 : lw_okq (⟨"java/lang/Throwable", "fillInStackTrace", "(I)Ljava/lang/Throwable;"⟩, 6) := ⟨⟨by decide +kernel, by decide +kernel⟩, List.mem_of_getElem? (i := 79) (by decide +kernel), List.mem_of_getElem? (i := 77) (by decide +kernel), List.mem_of_getElem? (i := 78) (by decide +kernel)⟩
theorem lw_p1 : lw_okq (⟨"Usewise$Lease", "layDebts", "()V"⟩, 11) := ⟨⟨by decide +kernel, by decide +kernel⟩, List.mem_of_getElem? (i := 124) (by decide +kernel), List.mem_of_getElem? (i := 136) (by decide +kernel), List.mem_of_getElem? (i := 137) (by decide +kernel)⟩
theorem lw_p2 : lw_okq (⟨"Usewise$Lease", "passOneMonth", "()V"⟩, 11) := ⟨⟨by decide +kernel, by decide +kernel⟩, List.mem_of_getElem? (i := 124) (by decide +kernel), List.mem_of_getElem? (i := 204) (by decide +kernel), List.mem_of_getElem? (i := 205) (by decide +kernel)⟩
theorem lw_p3 : lw_okq (⟨"Usewise$Lease", "monthsToWriteOver", "()I"⟩, 11) := ⟨⟨by decide +kernel, by decide +kernel⟩, List.mem_of_getElem? (i := 124) (by decide +kernel), List.mem_of_getElem? (i := 208) (by decide +kernel), List.mem_of_getElem? (i := 209) (by decide +kernel)⟩
theorem lw_p4 : lw_okq (⟨"Usewise", "leaseOf", "(I)LUsewise$Lease;"⟩, 2) := ⟨⟨by decide +kernel, by decide +kernel⟩, List.mem_of_getElem? (i := 12) (by decide +kernel), List.mem_of_getElem? (i := 220) (by decide +kernel), List.mem_of_getElem? (i := 221) (by decide +kernel)⟩
theorem lw_p5 : lw_okq (⟨"Usewise$Lease", "scalePayments", "(I)V"⟩, 11) := ⟨⟨by decide +kernel, by decide +kernel⟩, List.mem_of_getElem? (i := 124) (by decide +kernel), List.mem_of_getElem? (i := 258) (by decide +kernel), List.mem_of_getElem? (i := 259) (by decide +kernel)⟩
theorem lw_p6 : lw_okq (⟨"Usewise$Lease", "followDebt", "()V"⟩, 11) := ⟨⟨by decide +kernel, by decide +kernel⟩, List.mem_of_getElem? (i := 124) (by decide +kernel), List.mem_of_getElem? (i := 262) (by decide +kernel), List.mem_of_getElem? (i := 263) (by decide +kernel)⟩
theorem lw_p7 : lw_okq (⟨"Usewise$Lease", "giveUp", "(J)I"⟩, 11) := ⟨⟨by decide +kernel, by decide +kernel⟩, List.mem_of_getElem? (i := 124) (by decide +kernel), List.mem_of_getElem? (i := 295) (by decide +kernel), List.mem_of_getElem? (i := 296) (by decide +kernel)⟩
theorem lw_p8 : lw_okq (⟨"UsewiseModel", "fails", "(I)I"⟩, 13) := ⟨⟨by decide +kernel, by decide +kernel⟩, List.mem_of_getElem? (i := 397) (by decide +kernel), List.mem_of_getElem? (i := 454) (by decide +kernel), List.mem_of_getElem? (i := 455) (by decide +kernel)⟩
theorem lw_p9 : lw_okq (⟨"UsewiseModel", "worthNow", "(I)I"⟩, 13) := ⟨⟨by decide +kernel, by decide +kernel⟩, List.mem_of_getElem? (i := 397) (by decide +kernel), List.mem_of_getElem? (i := 458) (by decide +kernel), List.mem_of_getElem? (i := 459) (by decide +kernel)⟩
theorem lw_p10 : lw_okq (⟨"UsewiseModel", "worth", "(III)I"⟩, 13) := ⟨⟨by decide +kernel, by decide +kernel⟩, List.mem_of_getElem? (i := 397) (by decide +kernel), List.mem_of_getElem? (i := 462) (by decide +kernel), List.mem_of_getElem? (i := 463) (by decide +kernel)⟩
theorem lw_p11 : lw_okq (⟨"UsewiseModel", "left", "(I)I"⟩, 13) := ⟨⟨by decide +kernel, by decide +kernel⟩, List.mem_of_getElem? (i := 397) (by decide +kernel), List.mem_of_getElem? (i := 471) (by decide +kernel), List.mem_of_getElem? (i := 472) (by decide +kernel)⟩
theorem lw_p12 : lw_okq (⟨"UsewiseModel", "month", "(I)V"⟩, 13) := ⟨⟨by decide +kernel, by decide +kernel⟩, List.mem_of_getElem? (i := 397) (by decide +kernel), List.mem_of_getElem? (i := 475) (by decide +kernel), List.mem_of_getElem? (i := 476) (by decide +kernel)⟩
theorem lw_p13 : lw_okq (⟨"UsewiseModel", "isNoLease", "(I)Z"⟩, 13) := ⟨⟨by decide +kernel, by decide +kernel⟩, List.mem_of_getElem? (i := 397) (by decide +kernel), List.mem_of_getElem? (i := 483) (by decide +kernel), List.mem_of_getElem? (i := 484) (by decide +kernel)⟩
theorem lw_p14 : lw_okq (⟨"UsewiseModel", "laidAgain", "(I)I"⟩, 13) := ⟨⟨by decide +kernel, by decide +kernel⟩, List.mem_of_getElem? (i := 397) (by decide +kernel), List.mem_of_getElem? (i := 488) (by decide +kernel), List.mem_of_getElem? (i := 489) (by decide +kernel)⟩
theorem lw_p15 : lw_okq (⟨"UsewiseModel", "givenUp", "(II)I"⟩, 13) := ⟨⟨by decide +kernel, by decide +kernel⟩, List.mem_of_getElem? (i := 397) (by decide +kernel), List.mem_of_getElem? (i := 500) (by decide +kernel), List.mem_of_getElem? (i := 501) (by decide +kernel)⟩
def lw_privs_1 : List (MethodName × Nat) := [(⟨"java/lang/Throwable", "fillInStackTrace", "(I)Ljava/lang/Throwable;"⟩, 6), (⟨"Usewise$Lease", "layDebts", "()V"⟩, 11), (⟨"Usewise$Lease", "passOneMonth", "()V"⟩, 11), (⟨"Usewise$Lease", "monthsToWriteOver", "()I"⟩, 11), (⟨"Usewise", "leaseOf", "(I)LUsewise$Lease;"⟩, 2), (⟨"Usewise$Lease", "scalePayments", "(I)V"⟩, 11), (⟨"Usewise$Lease", "followDebt", "()V"⟩, 11), (⟨"Usewise$Lease", "giveUp", "(J)I"⟩, 11), (⟨"UsewiseModel", "fails", "(I)I"⟩, 13), (⟨"UsewiseModel", "worthNow", "(I)I"⟩, 13), (⟨"UsewiseModel", "worth", "(III)I"⟩, 13), (⟨"UsewiseModel", "left", "(I)I"⟩, 13), (⟨"UsewiseModel", "month", "(I)V"⟩, 13), (⟨"UsewiseModel", "isNoLease", "(I)Z"⟩, 13), (⟨"UsewiseModel", "laidAgain", "(I)I"⟩, 13), (⟨"UsewiseModel", "givenUp", "(II)I"⟩, 13)]
theorem lw_r1 : ∀ q ∈ lw_privs_1, lw_okq q := List.forall_mem_cons.mpr ⟨lw_p0, List.forall_mem_cons.mpr ⟨lw_p1, List.forall_mem_cons.mpr ⟨lw_p2, List.forall_mem_cons.mpr ⟨lw_p3, List.forall_mem_cons.mpr ⟨lw_p4, List.forall_mem_cons.mpr ⟨lw_p5, List.forall_mem_cons.mpr ⟨lw_p6, List.forall_mem_cons.mpr ⟨lw_p7, List.forall_mem_cons.mpr ⟨lw_p8, List.forall_mem_cons.mpr ⟨lw_p9, List.forall_mem_cons.mpr ⟨lw_p10, List.forall_mem_cons.mpr ⟨lw_p11, List.forall_mem_cons.mpr ⟨lw_p12, List.forall_mem_cons.mpr ⟨lw_p13, List.forall_mem_cons.mpr ⟨lw_p14, List.forall_mem_cons.mpr ⟨lw_p15, fun _ h => absurd h List.not_mem_nil⟩⟩⟩⟩⟩⟩⟩⟩⟩⟩⟩⟩⟩⟩⟩⟩
def lw_privs : List (MethodName × Nat) := lw_privs_1
def lw_tbl : List Cond := k2_sels lw_privs ++ tables_1
theorem lw_privs_ok : ∀ q ∈ lw_privs, lw_okq q := lw_r1
-- ===== end of PART A; then your names; then what follows =====
end
section
/-! ===== BEGIN words of one list among another's, by their places ===== -/
theorem goodIn_r {big : List Cond} (ws : List Cond) (ps : List Nat) (hp : ws = ps.filterMap (fun i => big[i]?)) (h : ws.all goodWord = true) : GoodIn big ws := by
  intro w hw
  have h1 := List.all_eq_true.mp h w hw
  rw [hp] at hw
  obtain ⟨i, -, hi⟩ := List.mem_filterMap.mp hw
  have hm : w ∈ big := by first | exact List.mem_of_getElem? hi | exact List.getElem?_mem hi
  exact ⟨hm, good_of_word h1⟩
theorem goodIn_app {big a b : List Cond} (ha : GoodIn big a) (hb : GoodIn big b) : GoodIn big (a ++ b) := fun w h => (List.mem_append.mp h).elim (ha w) (hb w)
theorem goodIn_ca {big a b : List Cond} {c : Cond} (ha : GoodIn big (c :: a)) (hb : GoodIn big b) : GoodIn big (c :: (a ++ b)) := fun w h => (List.mem_cons.mp h).elim (fun e => ha w (List.mem_cons.mpr (Or.inl e))) (fun h => (List.mem_append.mp h).elim (fun h => ha w (List.mem_cons.mpr (Or.inr h))) (hb w))
theorem goodIn_sub {big ws : List Cond} (hm : ∀ w ∈ ws, w ∈ big) (h : ws.all goodWord = true) : GoodIn big ws := fun w hw => ⟨hm w hw, good_of_word (List.all_eq_true.mp h w hw)⟩
/-! ===== END ===== -/

/-! ===== BEGIN exceptions that leave a method, and their catching by the caller (launches without stack traces) ===== -/
section VXA
/-! The laws vx_back, vx_callV, vx_callS, vx_callSW, vx_throw0, vx_throwS follow proofs of the library, with one case more: JvmDerived/Free/Laws.lean (Back.of_free), Shelf42/LK1.lean (callV, callS), Shelf/KitTraced.lean (throwNew0V, throwNewS). -/
/-- where a method has thrown q: the class by its name, the cell, what was written, the world -/
def vx_T (XC : String → State → State → Prop) (st : State) (q : Addr) (t : State) (mc ms : Nat) (free : Addr → Prop) : Prop :=
  ∃ (E : String) (ce : Cell) (L : List Loc), XC E st t ∧ t.heap[q]? = some ce ∧ ce.vm = .none ∧ st.vm.findClass E = some ce.cls ∧ st.WarmedH t.vm ∧ st.sameButNew ({ t with vm := st.vm } : State) L mc ms ∧ ∀ z ∈ L, free z.base
def vx_Q (Qc : Array Value → State → Outcome → State → Prop) (XC : String → State → State → Prop) (mc ms : Nat) (free : Addr → Prop) : Array Value → State → Outcome → State → Prop := fun a st o t =>
  (Qc a st o t ∧ ∃ L, FrameEnd st o t L mc ms ∧ ∀ q ∈ L, free q.base) ∨ ∃ q, o = .threw q ∧ vx_T XC st q t mc ms free
/-- a callee that returns or throws -/
def vx_Met (l : Launch) (y : MethodName) (ws : List Cond) (rm : Room) (Pc : Array Value → State → Prop) (Qc : Array Value → State → Outcome → State → Prop) (XC : String → State → State → Prop) (mc ms : Nat) (free : Addr → Prop) : Prop :=
  MetFree l y (headSpec ws rm) Pc (fun _ _ _ _ _ => True) (vx_Q Qc XC mc ms free)
def vx_Post (XC : String → State → State → Prop) (mc ms : Nat) (free : Addr → Prop) : Pt → Array Value → Addr → Pt → Prop := fun A a q B =>
  ∃ (g : JFrame) (mk : MethodId) (t : State) (L : List Loc) (E : String) (ce : Cell), B.U.heap = t.heap ∧ B.U.vm = t.vm ∧ XC E (A.U.calling g mk a) t ∧ t.heap[q]? = some ce ∧ ce.vm = .none ∧ A.U.vm.findClass E = some ce.cls ∧ B.locs = A.locs ++ L ∧ (∀ z ∈ L, free z.base) ∧ B.cells = A.cells + mc ∧ B.slots = A.slots + ms
def vx_Back (l : Launch) (R : Room) (p : Program) (e : Env) (below : List Frame) (s : State) (sargs : Array Value) (y : MethodName) (len W9 : Nat)
    (Pre : Pt → Array Value → Prop) (Post : Pt → Array Value → Option Value → Pt → Prop) (PostX : Pt → Array Value → Addr → Pt → Prop) : Prop :=
  ∀ (m : MethodId) (meth : Method) (c : Code) (A : Pt) (g : JFrame) (ig : Instr) (mk : MethodId) (a : Array Value),
    Stand p l e R s m sargs below meth c A.U A.locs A.cells A.slots → g.method = m → g.locals.size = c.maxLocals → decode c.code g.pc = .ok (ig, len) →
    2 * g.monitorRoom + (g.stack.map fun v => v.category).sum ≤ W9 → A.U.methodNamed? y = some mk → Pre A a →
    (∃ (v : Option Value) (B : Pt), Stand p l e R s m sargs below meth c B.U B.locs B.cells B.slots ∧ Post A a v B ∧
      Steps p.tables e below (doInvoke e (A.U.setTop g) [] mk a).1 (B.U.setTop { g with pc := g.pc + len, stack := v.toList ++ g.stack })) ∨
    (∃ (q : Addr) (B : Pt), Stand p l e R s m sargs below meth c B.U B.locs B.cells B.slots ∧ PostX A a q B ∧
      Steps p.tables e below (doInvoke e (A.U.setTop g) [] mk a).1 ((B.U.setTop g).pushFrame (.throwing q)))
section Payer
variable {l : Launch} {R : Room} {p : Program} {e : Env} {below : List Frame} {s : State} {sargs : Array Value} {y : MethodName} {len W9 : Nat}
theorem vx_back {ws : List Cond} {rm : Room} {Pc : Array Value → State → Prop} {Qc : Array Value → State → Outcome → State → Prop} {XC : String → State → State → Prop} {mc ms : Nat} {free : Addr → Prop} {bytes : ByteArray} {maxL : Nat} {ret : Option FieldType}
    (hM : vx_Met l y ws rm Pc Qc XC mc ms free) (hblind : FrameBlind Pc) (hrc : rm.cells = mc) (hrs : rm.slots = ms)
    (hframes : rm.frames + 1 ≤ R.frames) (hlocals : W9 + (maxL + 11) + rm.locals ≤ R.locals)
    (hws : ∀ w ∈ ws, ∀ a' U, s.WarmedH U.vm → w.before a' U = true) (hcode : Cond.code y bytes maxL ret ∈ ws) (hinit : ∀ a' U, s.WarmedH U.vm → (Cond.initialized y.cls).before a' U = true) :
    vx_Back l R p e below s sargs y len W9 (PreOf R mc ms Pc) (PostOf Qc mc ms free) (vx_Post XC mc ms free) := by
  intro m meth c A g ig mk a X hg hsize hdg hW hn hp
  have h1 : (headSpec ws rm).pre.before a A.U = true := atoms_intro fun w hw => hws w hw _ _ X.warmed
  have h2 : (Cond.code y bytes maxL ret).before a A.U = true := hws _ hcode _ _ X.warmed
  have h3 : (Cond.initialized y.cls).before a A.U = true := hinit _ _ X.warmed
  have h4 : A.cells + (headSpec ws rm).room.cells ≤ R.cells := by rw [show (headSpec ws rm).room.cells = mc from hrc]; exact hp.1
  have h5 : A.slots + (headSpec ws rm).room.slots ≤ R.slots := by rw [show (headSpec ws rm).room.slots = ms from hrs]; exact hp.2.1
  have hPc : Pc a (A.U.calling g mk a) := hblind _ _ _ _ hp.2.2
  obtain ⟨U, Ls, c0, s0⟩ := A
  dsimp only [Pt.U, Pt.locs, Pt.cells, Pt.slots] at h1 h2 h3 h4 h5 X hn hPc ⊢
  obtain ⟨methY, cY, hmY, hcY, -, hlY, -, -, -, -⟩ := Cond.code_spec hn h2
  obtain ⟨kY, hkY, -⟩ := className_of_methodNamed hn
  have hinitY : kY.init = .initialized := Cond.initialized_spec (findClass_of_methodNamed hn) hkY h3
  have h : At U g.method c below := by rw [hg]; exact X.here
  have hlocals9 : W9 + (maxL + 11) + (headSpec ws rm).room.locals ≤ R.locals := hlocals
  have happ : (headSpec ws rm).appliesLoose y e.platform (U.calling g mk a) = true :=
    Spec.appliesLoose_calling (g := g) h hdg hn hkY hinitY
      (X.room_calling (g := g) (R' := (headSpec ws rm).room) hsize hmY hcY hframes (by rw [hlY]; omega) h4 h5) h1
  obtain ⟨mid, hmid⟩ := h.above
  have hfr : (U.setTop g).frames = (.java g :: mid) ++ below := by rw [State.frames_setTop' g h.top, hmid]; rfl
  obtain ⟨o, s₂, hsteps, -, hend, hq⟩ := Steps.callFree hM p X.admits X.cas X.clock (acts := []) hfr happ hPc trivial
  have hq' : vx_Q Qc XC mc ms free a (U.calling g mk a) o s₂ := hq
  rw [State.frames_setTop' g h.top] at hend
  obtain ⟨g₀, hg0⟩ := Option.isSome_iff_exists.mp h.top
  obtain ⟨r, hr⟩ := State.topJava?_eq_some.mp hg0
  have hr' : (({ U with heap := s₂.heap, slotsUsed := s₂.slotsUsed } : State).setVm s₂.vm).frames = .java g₀ :: r := hr
  rcases hq' with ⟨hqc, L, hfe, hL⟩ | ⟨q, rfl, E, ce, L, hx, hce, hcv, hcl, hW₂, hsm, hL⟩
  · obtain ⟨⟨v, rfl⟩, hW₂, e2, q2, q3, q4, q5, q6⟩ := id hfe
    have e3 : s₂ = ({ (U.calling g mk a).setFrames s₂.frames with heap := s₂.heap, slotsUsed := s₂.slotsUsed } : State).setVm s₂.vm := by
      have : s₂ = ({ s₂ with vm := (U.calling g mk a).vm } : State).setVm s₂.vm := rfl
      rw [e2] at this
      exact this
    obtain ⟨c₂, i₂, len₂, hc₂, hd₂, hf₂⟩ := hend
    have hW' : U.WarmedH s₂.vm := hW₂
    have hcc : c₂ = c := by
      have h1 : s₂.code? g.method = U.code? g.method := by
        rw [State.code?_eq, State.code?_eq, hW'.alike.method?]
      exact Option.some.inj (hc₂.symm.trans (h1.trans h.code))
    subst hcc
    have hlen : len₂ = len := by rw [hdg] at hd₂; cases hd₂; rfl
    subst hlen
    have hs₂ : s₂ = (({ U with heap := s₂.heap, slotsUsed := s₂.slotsUsed } : State).setVm s₂.vm).setTop { g with pc := g.pc + len₂, stack := v.toList ++ g.stack } := by
      refine e3.trans ?_
      rw [hf₂, State.calling_eq h.top, State.setFrames_setFrames, State.setTop_of_frames _ hr', hr]
      rfl
    have hsame : U.sameButNew ({ U with heap := s₂.heap, slotsUsed := s₂.slotsUsed } : State) L mc ms := by
      refine ⟨?_, q2, q3, q4, q5, q6⟩
      obtain ⟨t, ht, -⟩ := State.frames_cons hr
      show ({ U with heap := s₂.heap, slotsUsed := s₂.slotsUsed } : State) = { U.setFrames U.frames with heap := s₂.heap, slotsUsed := s₂.slotsUsed }
      rw [State.setFrames_self ht]
    subst hg
    refine Or.inl ⟨v, ⟨(({ U with heap := s₂.heap, slotsUsed := s₂.slotsUsed } : State).setVm s₂.vm), Ls ++ L, c0 + mc, s0 + ms⟩,
      ⟨X.admits, X.cas, X.clock, X.frames, X.room, X.hears, X.method, X.code, (X.here.setHeapUsed s₂.heap s₂.slotsUsed).setVm hW'.alike, X.tail, State.WarmedH.trans X.warmed hW', X.limits, X.bytes, X.same.trans (hsame.setVm s.vm)⟩,
      ⟨g, mk, s₂, L, rfl, rfl, hqc, rfl, hL, rfl, rfl⟩, ?_⟩
    show Steps p.tables e below _ ((({ U with heap := s₂.heap, slotsUsed := s₂.slotsUsed } : State).setVm s₂.vm).setTop { g with pc := g.pc + len₂, stack := v.toList ++ g.stack })
    rw [← hs₂]
    exact hsteps
  · obtain ⟨e2, q2, q3, q4, q5, q6⟩ := id hsm
    have e3 : s₂ = ({ (U.calling g mk a).setFrames s₂.frames with heap := s₂.heap, slotsUsed := s₂.slotsUsed } : State).setVm s₂.vm := by
      have : s₂ = ({ s₂ with vm := (U.calling g mk a).vm } : State).setVm s₂.vm := rfl
      rw [e2] at this
      exact this
    have hf₂ : s₂.frames = .throwing q :: .java g :: U.frames.tail := hend
    have hW' : U.WarmedH s₂.vm := hW₂
    have hs₂ : s₂ = ((({ U with heap := s₂.heap, slotsUsed := s₂.slotsUsed } : State).setVm s₂.vm).setTop g).pushFrame (.throwing q) := by
      refine e3.trans ?_
      rw [hf₂, State.calling_eq h.top, State.setFrames_setFrames, State.pushFrame, State.frames_setTop _ hr', State.setTop_of_frames _ hr', State.setFrames_setFrames, hr]
      rfl
    have hsame : U.sameButNew ({ U with heap := s₂.heap, slotsUsed := s₂.slotsUsed } : State) L mc ms := by
      refine ⟨?_, q2, q3, q4, q5, q6⟩
      obtain ⟨t, ht, -⟩ := State.frames_cons hr
      show ({ U with heap := s₂.heap, slotsUsed := s₂.slotsUsed } : State) = { U.setFrames U.frames with heap := s₂.heap, slotsUsed := s₂.slotsUsed }
      rw [State.setFrames_self ht]
    subst hg
    refine Or.inr ⟨q, ⟨(({ U with heap := s₂.heap, slotsUsed := s₂.slotsUsed } : State).setVm s₂.vm), Ls ++ L, c0 + mc, s0 + ms⟩,
      ⟨X.admits, X.cas, X.clock, X.frames, X.room, X.hears, X.method, X.code, (X.here.setHeapUsed s₂.heap s₂.slotsUsed).setVm hW'.alike, X.tail, State.WarmedH.trans X.warmed hW', X.limits, X.bytes, X.same.trans (hsame.setVm s.vm)⟩,
      ⟨g, mk, s₂, L, E, ce, rfl, rfl, hx, hce, hcv, hcl, rfl, hL, rfl, rfl⟩, ?_⟩
    show Steps p.tables e below _ (((({ U with heap := s₂.heap, slotsUsed := s₂.slotsUsed } : State).setVm s₂.vm).setTop g).pushFrame (.throwing q))
    rw [← hs₂]
    exact hsteps
end Payer
section Calls
variable {p : Program} {l : Launch} {e : Env} {R : Room} {s : State} {m : MethodId} {args : Array Value} {below : List Frame} {meth : Method} {c : Code} {T : State} {locs : List Loc} {cells slots : Nat}
theorem vx_callV (X : Stand p l e R s m args below meth c T locs cells slots) (hexec : p.tables.exec = Jvm.exec) {own C : String} {index : Nat} {y : MethodName} {bytes : ByteArray} {maxL : Nat} {ret : Option FieldType}
    (hown : s.vm.findClass own = some m.cls) (hlink : (Cond.methodLink own index y).before args s = true) (hinst : (Cond.instanceMethod y).before args s = true) (hsel : (Cond.selects C y y).before args s = true)
    (hcode : (Cond.code y bytes maxL ret).before args s = true) (hy : y.cls ≠ "java/lang/invoke/MethodHandle" ∧ y.cls ≠ "java/lang/invoke/VarHandle")
    {W9 : Nat} {Pre : Pt → Array Value → Prop} {Post : Pt → Array Value → Option Value → Pt → Prop} {PostX : Pt → Array Value → Addr → Pt → Prop} (hK : vx_Back l R p e below s args y 3 W9 Pre Post PostX)
    {b : Addr} {cellB : Cell} (hcell : T.heap[b]? = some cellB) (hobj : cellB.vm.isStatics = false) (hcls : s.vm.findClass C = some cellB.cls)
    {g : JFrame} (hg : g.method = m) (hsize : g.locals.size = c.maxLocals) {argsL rest : List Value} (hlen : ∀ sig, parseMethodDescriptor y.desc = some sig → argsL.length = sig.parameters.length)
    (hstack : g.stack = argsL.reverse ++ .ref b :: rest) (hW : 2 * g.monitorRoom + (rest.map fun v => v.category).sum ≤ W9) (hdg : decode c.code g.pc = .ok (.invokevirtual index, 3))
    (hpre : ∀ vm₁, s.WarmedH vm₁ → Pre ⟨T.setVm vm₁, locs, cells, slots⟩ (Value.ref b :: argsL).toArray) :
    (∃ (v : Option Value) (vm₁ : Vm) (B : Pt), s.WarmedH vm₁ ∧ Stand p l e R s m args below meth c B.U B.locs B.cells B.slots ∧ Post ⟨T.setVm vm₁, locs, cells, slots⟩ (Value.ref b :: argsL).toArray v B ∧
      ∀ target, Steps p.tables e below (B.U.setTop { g with pc := g.pc + 3, stack := v.toList ++ rest }) target → Steps p.tables e below (T.setTop g) target) ∨
    (∃ (q : Addr) (vm₁ : Vm) (B : Pt), s.WarmedH vm₁ ∧ Stand p l e R s m args below meth c B.U B.locs B.cells B.slots ∧ PostX ⟨T.setVm vm₁, locs, cells, slots⟩ (Value.ref b :: argsL).toArray q B ∧
      Steps p.tables e below (T.setTop g) ((B.U.setTop { g with stack := rest }).pushFrame (.throwing q))) := by
  obtain ⟨mk, methM, hnamed, hmethM, hstM, habM⟩ := Cond.instanceMethod_spec hinst
  obtain ⟨methM', cM, hmethM', -, -, -, -, -, -, hsigM⟩ := Cond.code_spec hnamed hcode
  cases hmethM.symm.trans hmethM'
  obtain ⟨c2, r2, m2, q1, q2, q3, q4, kP, hkP, hkPi⟩ := Cond.selects_spec hsel
  cases hcls.symm.trans q1
  cases (State.methodFound?_of_named hnamed hy).symm.trans q2
  cases hnamed.symm.trans q3
  have hselP : selectMethod e.platform s.vm cellB.cls mk = .method mk := by rw [Launch.admits_selectMethod X.admits]; exact q4
  obtain ⟨vm₁, X₁, hstep₁⟩ := X.invokevirtual hexec hown hlink hnamed hmethM hstM hkP hkPi hy (a := b) (cell := cellB) hcell
    (fun z h => by rw [h] at hobj; cases hobj) hselP hmethM habM hkP hkPi (g := g) hg (argsL := argsL) (rest := rest) (hlen _ hsigM) hstack hdg
  rcases hK m meth c ⟨T.setVm vm₁, locs, cells, slots⟩ { g with stack := rest } (.invokevirtual index) mk (Value.ref b :: argsL).toArray X₁ hg hsize hdg hW (X₁.named hnamed) (hpre vm₁ X₁.warmed) with ⟨v, B, X', hpost, hsteps⟩ | ⟨q, B, X', hpost, hsteps⟩
  · exact Or.inl ⟨v, vm₁, B, X₁.warmed, X', hpost, fun target h => hstep₁ _ fun acts => by rw [doInvoke_state]; exact hsteps.trans h⟩
  · exact Or.inr ⟨q, vm₁, B, X₁.warmed, X', hpost, hstep₁ _ fun acts => by rw [doInvoke_state]; exact hsteps⟩
theorem vx_callS (X : Stand p l e R s m args below meth c T locs cells slots) (hexec : p.tables.exec = Jvm.exec) {own : String} {index : Nat} {y : MethodName} {bytes : ByteArray} {maxL : Nat} {ret : Option FieldType}
    (hown : s.vm.findClass own = some m.cls) (hlink : (Cond.methodLink own index y).before args s = true) (hstat : (Cond.static y).before args s = true) (hinit : (Cond.initialized y.cls).before args s = true)
    (hcode : (Cond.code y bytes maxL ret).before args s = true) (hy : y.cls ≠ "java/lang/invoke/MethodHandle" ∧ y.cls ≠ "java/lang/invoke/VarHandle")
    {W9 : Nat} {Pre : Pt → Array Value → Prop} {Post : Pt → Array Value → Option Value → Pt → Prop} {PostX : Pt → Array Value → Addr → Pt → Prop} (hK : vx_Back l R p e below s args y 3 W9 Pre Post PostX)
    {g : JFrame} (hg : g.method = m) (hsize : g.locals.size = c.maxLocals) {argsL rest : List Value} (hlen : ∀ sig, parseMethodDescriptor y.desc = some sig → argsL.length = sig.parameters.length)
    (hstack : g.stack = argsL.reverse ++ rest) (hW : 2 * g.monitorRoom + (rest.map fun v => v.category).sum ≤ W9) (hdg : decode c.code g.pc = .ok (.invokestatic index, 3))
    (hpre : ∀ vm₁, s.WarmedH vm₁ → Pre ⟨T.setVm vm₁, locs, cells, slots⟩ argsL.toArray) :
    (∃ (v : Option Value) (vm₁ : Vm) (B : Pt), s.WarmedH vm₁ ∧ Stand p l e R s m args below meth c B.U B.locs B.cells B.slots ∧ Post ⟨T.setVm vm₁, locs, cells, slots⟩ argsL.toArray v B ∧
      ∀ target, Steps p.tables e below (B.U.setTop { g with pc := g.pc + 3, stack := v.toList ++ rest }) target → Steps p.tables e below (T.setTop g) target) ∨
    (∃ (q : Addr) (vm₁ : Vm) (B : Pt), s.WarmedH vm₁ ∧ Stand p l e R s m args below meth c B.U B.locs B.cells B.slots ∧ PostX ⟨T.setVm vm₁, locs, cells, slots⟩ argsL.toArray q B ∧
      Steps p.tables e below (T.setTop g) ((B.U.setTop { g with stack := rest }).pushFrame (.throwing q))) := by
  obtain ⟨mk, hnamed⟩ := Cond.code_named hcode
  obtain ⟨methM, cM, hmethM, -, -, -, -, -, -, hsigM⟩ := Cond.code_spec hnamed hcode
  have hstatic : methM.isStatic = true := Cond.static_spec hnamed hmethM hstat
  obtain ⟨kP, hkP, -⟩ := className_of_methodNamed hnamed
  have hinitP : kP.init = .initialized := Cond.initialized_spec (findClass_of_methodNamed hnamed) hkP hinit
  obtain ⟨vm₁, X₁, hstep₁⟩ := X.invokestatic hexec hown hlink hnamed hmethM hstatic hkP hinitP hy (g := g) hg (argsL := argsL) (rest := rest) (hlen _ hsigM) hstack hdg
  rcases hK m meth c ⟨T.setVm vm₁, locs, cells, slots⟩ { g with stack := rest } (.invokestatic index) mk argsL.toArray X₁ hg hsize hdg hW (X₁.named hnamed) (hpre vm₁ X₁.warmed) with ⟨v, B, X', hpost, hsteps⟩ | ⟨q, B, X', hpost, hsteps⟩
  · exact Or.inl ⟨v, vm₁, B, X₁.warmed, X', hpost, fun target h => hstep₁ _ fun acts => by rw [doInvoke_state]; exact hsteps.trans h⟩
  · exact Or.inr ⟨q, vm₁, B, X₁.warmed, X', hpost, hstep₁ _ fun acts => by rw [doInvoke_state]; exact hsteps⟩
end Calls
theorem vx_cls {s : State} {T : State} {vm₁ : Vm} {E : String} {k : ClassId} (hW : s.WarmedH vm₁) (h : (T.setVm vm₁).vm.findClass E = some k) : s.vm.findClass E = some k := by
  have h1 : vm₁.findClass E = some k := h
  rw [hW.alike.findClass] at h1
  exact h1
/-- the method's frame g, with q thrown over it -/
def vx_W (p : Program) (l : Launch) (e : Env) (R : Room) (s : State) (m : MethodId) (args : Array Value) (below : List Frame) (meth : Method) (c : Code) (H : Heap) (locs : List Loc) (cells slots : Nat) (Q : State → Prop) (g : JFrame) (q : Addr) : Prop :=
  ∀ T : State, T.heap = H → Stand p l e R s m args below meth c T locs cells slots → ∃ t, Steps p.tables e below ((T.setTop g).pushFrame (.throwing q)) t ∧ Q t
def vx_Run (p : Program) (l : Launch) (e : Env) (R : Room) (s : State) (m : MethodId) (args : Array Value) (below : List Frame) (meth : Method) (c : Code) (H : Heap) (locs : List Loc) (cells slots mc ms : Nat) (g : JFrame) (rest : List Value) (Qa : State → Outcome → State → Prop) (XC : String → State → State → Prop) (free : Addr → Prop) : Prop :=
  ∀ T : State, T.heap = H → Stand p l e R s m args below meth c T locs cells slots →
    (∃ (v : Option Value) (st₀ t T' : State) (L : List Loc), st₀.heap = H ∧ Stand p l e R s m args below meth c T' (locs ++ L) (cells + mc) (slots + ms) ∧ (∀ q ∈ L, free q.base) ∧ T'.heap = t.heap ∧ T'.vm = t.vm ∧ Qa st₀ (.returned v) t ∧
      Goes p e below T g T' { g with pc := g.pc + 3, stack := v.toList ++ rest }) ∨
    (∃ (q : Addr) (st₀ t T' : State) (L : List Loc) (E : String) (ce : Cell), st₀.heap = H ∧ Stand p l e R s m args below meth c T' (locs ++ L) (cells + mc) (slots + ms) ∧ (∀ z ∈ L, free z.base) ∧ T'.heap = t.heap ∧ T'.vm = t.vm ∧ XC E st₀ t ∧ t.heap[q]? = some ce ∧ ce.vm = .none ∧ s.vm.findClass E = some ce.cls ∧
      Steps p.tables e below (T.setTop g) ((T'.setTop { g with stack := rest }).pushFrame (.throwing q)))
def vx_X {S : Type} (px : S → Prop) (B : String → S → State → Prop) (A : Nat → Prop) : String → State → State → Prop := fun E st t => ∃ u : S, px u ∧ B E u t ∧ va_F A st t
section Runs
variable {p : Program} {l : Launch} {e : Env} {R : Room} {s : State} {m : MethodId} {args : Array Value} {below : List Frame} {meth : Method} {c : Code} {H : Heap} {locs : List Loc} {cells slots : Nat}
variable {y : MethodName} {bytes cc : ByteArray} {maxL nL mc ms n index : Nat} {ret : Option FieldType} {ws : List Cond} {rm : Room} {Pc : Array Value → State → Prop} {Qc : Array Value → State → Outcome → State → Prop} {XC : String → State → State → Prop} {free : Addr → Prop} {Ts : List Cond} {own C : String} {b : Addr} {As rest : List Value} {g : JFrame}
theorem vx_callBack (cb : CallB R s args own index y bytes maxL ret ws rm mc ms n) (hM : vx_Met l y ws rm Pc Qc XC mc ms free) (hbl : FrameBlind Pc) : vx_Back l R p e below s args y 3 8 (PreOf R mc ms Pc) (PostOf Qc mc ms free) (vx_Post XC mc ms free) := by
  obtain ⟨hrc, hrs, hfr, hlo, hws, hcw, -, hini, -⟩ := cb
  exact vx_back (bytes := bytes) (maxL := maxL) (ret := ret) hM hbl hrc hrs hfr hlo hws hcw (fun a' U hW => word_at hW (Or.inl (by first | rfl | simp [Cond.onTables, Cond.keeps, Cond.steady])) hini)
theorem vx_runV (S : CallFix p m c cc nL s args Ts own) (hM : vx_Met l y ws rm Pc Qc XC mc ms free) (cw : CallW R s args own C index y bytes maxL ret ws rm mc ms n) (hp : PreV s H C b Pc As)
    (hg : g.method = m) (hn : As.length = n) (hsize : g.locals.size = nL) (hstack : g.stack = As.reverse ++ .ref b :: rest) (hW : 2 * g.monitorRoom + (rest.map fun v => v.category).sum ≤ 8) (hdg : decode cc g.pc = .ok (.invokevirtual index, 3)) (hf : cells + mc ≤ R.cells ∧ slots + ms ≤ R.slots) :
    vx_Run p l e R s m args below meth c H locs cells slots mc ms g rest (Qc (Value.ref b :: As).toArray) XC free := by
  have hK : vx_Back l R p e below s args y 3 8 (PreOf R mc ms Pc) (PostOf Qc mc ms free) (vx_Post XC mc ms free) := vx_callBack cw.1 hM hp.1
  obtain ⟨⟨-, -, -, -, -, -, hcode, -, hy, hlen, hl⟩, hin, hse⟩ := cw
  obtain ⟨hx, hb, hml, ho, -⟩ := S
  obtain ⟨-, ⟨cellB, hcB, hoB, hclB⟩, hPc⟩ := hp
  intro T hT X
  rcases vx_callV X hx (C := C) (bytes := bytes) (maxL := maxL) (ret := ret) ho hl hin hse hcode hy hK (by rw [hT]; exact hcB) hoB hclB hg (hsize.trans hml.symm) (argsL := As) (rest := rest) (fun sig h => hn.trans (hlen sig h)) hstack hW (by rw [hb]; exact hdg)
    (fun vm₁ hW₁ => ⟨hf.1, hf.2, hPc (T.setVm vm₁) hT hW₁⟩) with ⟨v, vm₁, ⟨U', l2, c2, s2⟩, hW₁, X', ⟨g', mk, t, L, e1, e2, hq, h1, hL, h2, h3⟩, st⟩ | ⟨q, vm₁, ⟨U', l2, c2, s2⟩, hW₁, X', ⟨g', mk, t, L, E, ce, e1, e2, hq, hce, hcv, hcl, h1, hL, h2, h3⟩, st⟩
  · dsimp only [Pt.U, Pt.locs, Pt.cells, Pt.slots] at X' e1 e2 h1 h2 h3 st
    subst h1; subst h2; subst h3
    exact Or.inl ⟨v, (T.setVm vm₁).calling g' mk (Value.ref b :: As).toArray, t, U', L, hT, X', hL, e1, e2, hq, st⟩
  · dsimp only [Pt.U, Pt.locs, Pt.cells, Pt.slots] at X' e1 e2 h1 h2 h3 st hcl
    subst h1; subst h2; subst h3
    exact Or.inr ⟨q, (T.setVm vm₁).calling g' mk (Value.ref b :: As).toArray, t, U', L, E, ce, hT, X', hL, e1, e2, hq, hce, hcv, vx_cls hW₁ hcl, st⟩
theorem vx_runS (S : CallFix p m c cc nL s args Ts own) (hM : vx_Met l y ws rm Pc Qc XC mc ms free) (cw : CallB R s args own index y bytes maxL ret ws rm mc ms n ∧ (Cond.static y).before args s = true) (hp : PreS s H Pc As)
    (hg : g.method = m) (hn : As.length = n) (hsize : g.locals.size = nL) (hstack : g.stack = As.reverse ++ rest) (hW : 2 * g.monitorRoom + (rest.map fun v => v.category).sum ≤ 8) (hdg : decode cc g.pc = .ok (.invokestatic index, 3)) (hf : cells + mc ≤ R.cells ∧ slots + ms ≤ R.slots) :
    vx_Run p l e R s m args below meth c H locs cells slots mc ms g rest (Qc As.toArray) XC free := by
  have hK : vx_Back l R p e below s args y 3 8 (PreOf R mc ms Pc) (PostOf Qc mc ms free) (vx_Post XC mc ms free) := vx_callBack cw.1 hM hp.1
  obtain ⟨⟨-, -, -, -, -, -, hcode, hini, hy, hlen, hl⟩, hstt⟩ := cw
  obtain ⟨hx, hb, hml, ho, -⟩ := S
  intro T hT X
  rcases vx_callS X hx (bytes := bytes) (maxL := maxL) (ret := ret) ho hl hstt hini hcode hy hK hg (hsize.trans hml.symm) (argsL := As) (rest := rest) (fun sig h => hn.trans (hlen sig h)) hstack hW (by rw [hb]; exact hdg)
    (fun vm₁ hW₁ => ⟨hf.1, hf.2, hp.2 (T.setVm vm₁) hT hW₁⟩) with ⟨v, vm₁, ⟨U', l2, c2, s2⟩, hW₁, X', ⟨g', mk, t, L, e1, e2, hq, h1, hL, h2, h3⟩, st⟩ | ⟨q, vm₁, ⟨U', l2, c2, s2⟩, hW₁, X', ⟨g', mk, t, L, E, ce, e1, e2, hq, hce, hcv, hcl, h1, hL, h2, h3⟩, st⟩
  · dsimp only [Pt.U, Pt.locs, Pt.cells, Pt.slots] at X' e1 e2 h1 h2 h3 st
    subst h1; subst h2; subst h3
    exact Or.inl ⟨v, (T.setVm vm₁).calling g' mk As.toArray, t, U', L, hT, X', hL, e1, e2, hq, st⟩
  · dsimp only [Pt.U, Pt.locs, Pt.cells, Pt.slots] at X' e1 e2 h1 h2 h3 st hcl
    subst h1; subst h2; subst h3
    exact Or.inr ⟨q, (T.setVm vm₁).calling g' mk As.toArray, t, U', L, E, ce, hT, X', hL, e1, e2, hq, hce, hcv, vx_cls hW₁ hcl, st⟩
end Runs
section Rows
variable {p : Program} {l : Launch} {e : Env} {R : Room} {s : State} {m : MethodId} {args : Array Value} {below : List Frame} {meth : Method} {c : Code} {H : Heap} {locs : List Loc} {cells slots : Nat} {Q : State → Prop}
variable {mc ms : Nat} {free : Addr → Prop} {A0 A1 : Nat → Prop} {H0 : Heap} {a : Array Value} {pc : Nat} {ls : Array Slot} {st0 rest : List Value}
theorem vx_keep {st₀ t T' : State} {L : List Loc} (h0 : st₀.heap = H) (e1 : T'.heap = t.heap) (hS : va_S A0 H0 H locs) (hA : ∀ q, q < H.size → A1 q → A0 q) (hf : ∀ q, free q → A0 q) (hL : ∀ q ∈ L, free q.base) (hF : va_F A1 st₀ t) :
    H.size ≤ T'.heap.size ∧ (∀ q : Nat, q < H.size → ¬ A1 q → T'.heap[q]? = H[q]?) ∧ va_S A0 H0 T'.heap (locs ++ L) := by
  obtain ⟨hz, hk⟩ := hF
  rw [h0] at hz hk
  exact ⟨by rw [e1]; exact hz, fun q h1 h2 => by rw [e1]; exact hk q h1 h2,
    ⟨Nat.le_trans hS.1 (by rw [e1]; exact hz), fun q h1 h2 => by rw [e1, hk q (Nat.lt_of_lt_of_le h1 hS.1) (fun z => h2 (hA q (Nat.lt_of_lt_of_le h1 hS.1) z))]; exact hS.2.1 q h1 h2, fun q hq => by
      rcases List.mem_append.mp hq with h | h
      · exact hS.2.2 q h
      · exact hf _ (hL q h)⟩⟩
theorem vx_calli {S SX : Type} {post : Int32 → S → Prop} {px : SX → Prop} {B : S → State → Prop} {BX : String → SX → State → Prop} {AX : Nat → Prop} (hr : vx_Run p l e R s m args below meth c H locs cells slots mc ms (F0 m pc ls st0) rest (va_Qi post B A1 a) (vx_X px BX AX) free) (hS : va_S A0 H0 H locs) (hA : ∀ q, q < H.size → A1 q → A0 q) (hf : ∀ q, free q → A0 q) (hAX : ∀ q, q < H.size → AX q → A0 q)
    (kx : ∀ (E : String) (ce : Cell) (q9 : Addr) (u : SX) (t : State) (H1 : Heap) (locs1 : List Loc), t.heap = H1 → s.vm.Alike t.vm → px u → BX E u t → H.size ≤ H1.size → (∀ q : Nat, q < H.size → ¬ AX q → H1[q]? = H[q]?) → va_S A0 H0 H1 locs1 → H1[q9]? = some ce → ce.vm = .none → s.vm.findClass E = some ce.cls → vx_W p l e R s m args below meth c H1 locs1 (cells + mc) (slots + ms) Q (F0 m pc ls rest) q9)
    (kk : ∀ (r : Int32) (u : S) (t : State) (H1 : Heap) (locs1 : List Loc), t.heap = H1 → s.vm.Alike t.vm → post r u → B u t → H.size ≤ H1.size → (∀ q : Nat, q < H.size → ¬ A1 q → H1[q]? = H[q]?) → va_S A0 H0 H1 locs1 → W p l e R s m args below meth c H1 locs1 (cells + mc) (slots + ms) Q (F0 m (pc + 3) ls (.int r :: rest))) : W p l e R s m args below meth c H locs cells slots Q (F0 m pc ls st0) := by
  intro T hT X
  rcases hr T hT X with ⟨v, st₀, t, T', L, h0, X', hL, e1, e2, ⟨⟨r, u, hv, hp, hb⟩, hF⟩, st⟩ | ⟨q, st₀, t, T', L, E, ce, h0, X', hL, e1, e2, ⟨u, hp, hb, hF⟩, hce, hcv, hcl, st⟩
  · cases hv
    obtain ⟨k1, k2, k3⟩ := vx_keep h0 e1 hS hA hf hL hF
    obtain ⟨t2, a1, b1⟩ := kk r u t T'.heap (locs ++ L) e1.symm (by rw [← e2]; exact X'.warmed.alike) hp hb k1 k2 k3 T' rfl X'
    exact ⟨t2, st t2 a1, b1⟩
  · obtain ⟨k1, k2, k3⟩ := vx_keep h0 e1 hS hAX hf hL hF
    obtain ⟨t2, a1, b1⟩ := kx E ce q u t T'.heap (locs ++ L) e1.symm (by rw [← e2]; exact X'.warmed.alike) hp hb k1 k2 k3 (by rw [e1]; exact hce) hcv hcl T' rfl X'
    exact ⟨t2, st.trans a1, b1⟩
theorem vx_calll {S SX : Type} {post : Int64 → S → Prop} {px : SX → Prop} {B : S → State → Prop} {BX : String → SX → State → Prop} {AX : Nat → Prop} (hr : vx_Run p l e R s m args below meth c H locs cells slots mc ms (F0 m pc ls st0) rest (va_Ql post B A1 a) (vx_X px BX AX) free) (hS : va_S A0 H0 H locs) (hA : ∀ q, q < H.size → A1 q → A0 q) (hf : ∀ q, free q → A0 q) (hAX : ∀ q, q < H.size → AX q → A0 q)
    (kx : ∀ (E : String) (ce : Cell) (q9 : Addr) (u : SX) (t : State) (H1 : Heap) (locs1 : List Loc), t.heap = H1 → s.vm.Alike t.vm → px u → BX E u t → H.size ≤ H1.size → (∀ q : Nat, q < H.size → ¬ AX q → H1[q]? = H[q]?) → va_S A0 H0 H1 locs1 → H1[q9]? = some ce → ce.vm = .none → s.vm.findClass E = some ce.cls → vx_W p l e R s m args below meth c H1 locs1 (cells + mc) (slots + ms) Q (F0 m pc ls rest) q9)
    (kk : ∀ (r : Int64) (u : S) (t : State) (H1 : Heap) (locs1 : List Loc), t.heap = H1 → s.vm.Alike t.vm → post r u → B u t → H.size ≤ H1.size → (∀ q : Nat, q < H.size → ¬ A1 q → H1[q]? = H[q]?) → va_S A0 H0 H1 locs1 → W p l e R s m args below meth c H1 locs1 (cells + mc) (slots + ms) Q (F0 m (pc + 3) ls (.long r :: rest))) : W p l e R s m args below meth c H locs cells slots Q (F0 m pc ls st0) := by
  intro T hT X
  rcases hr T hT X with ⟨v, st₀, t, T', L, h0, X', hL, e1, e2, ⟨⟨r, u, hv, hp, hb⟩, hF⟩, st⟩ | ⟨q, st₀, t, T', L, E, ce, h0, X', hL, e1, e2, ⟨u, hp, hb, hF⟩, hce, hcv, hcl, st⟩
  · cases hv
    obtain ⟨k1, k2, k3⟩ := vx_keep h0 e1 hS hA hf hL hF
    obtain ⟨t2, a1, b1⟩ := kk r u t T'.heap (locs ++ L) e1.symm (by rw [← e2]; exact X'.warmed.alike) hp hb k1 k2 k3 T' rfl X'
    exact ⟨t2, st t2 a1, b1⟩
  · obtain ⟨k1, k2, k3⟩ := vx_keep h0 e1 hS hAX hf hL hF
    obtain ⟨t2, a1, b1⟩ := kx E ce q u t T'.heap (locs ++ L) e1.symm (by rw [← e2]; exact X'.warmed.alike) hp hb k1 k2 k3 (by rw [e1]; exact hce) hcv hcl T' rfl X'
    exact ⟨t2, st.trans a1, b1⟩
theorem vx_callf {S SX : Type} {post : UInt32 → S → Prop} {px : SX → Prop} {B : S → State → Prop} {BX : String → SX → State → Prop} {AX : Nat → Prop} (hr : vx_Run p l e R s m args below meth c H locs cells slots mc ms (F0 m pc ls st0) rest (va_Qf post B A1 a) (vx_X px BX AX) free) (hS : va_S A0 H0 H locs) (hA : ∀ q, q < H.size → A1 q → A0 q) (hf : ∀ q, free q → A0 q) (hAX : ∀ q, q < H.size → AX q → A0 q)
    (kx : ∀ (E : String) (ce : Cell) (q9 : Addr) (u : SX) (t : State) (H1 : Heap) (locs1 : List Loc), t.heap = H1 → s.vm.Alike t.vm → px u → BX E u t → H.size ≤ H1.size → (∀ q : Nat, q < H.size → ¬ AX q → H1[q]? = H[q]?) → va_S A0 H0 H1 locs1 → H1[q9]? = some ce → ce.vm = .none → s.vm.findClass E = some ce.cls → vx_W p l e R s m args below meth c H1 locs1 (cells + mc) (slots + ms) Q (F0 m pc ls rest) q9)
    (kk : ∀ (r : UInt32) (u : S) (t : State) (H1 : Heap) (locs1 : List Loc), t.heap = H1 → s.vm.Alike t.vm → post r u → B u t → H.size ≤ H1.size → (∀ q : Nat, q < H.size → ¬ A1 q → H1[q]? = H[q]?) → va_S A0 H0 H1 locs1 → W p l e R s m args below meth c H1 locs1 (cells + mc) (slots + ms) Q (F0 m (pc + 3) ls (.float r :: rest))) : W p l e R s m args below meth c H locs cells slots Q (F0 m pc ls st0) := by
  intro T hT X
  rcases hr T hT X with ⟨v, st₀, t, T', L, h0, X', hL, e1, e2, ⟨⟨r, u, hv, hp, hb⟩, hF⟩, st⟩ | ⟨q, st₀, t, T', L, E, ce, h0, X', hL, e1, e2, ⟨u, hp, hb, hF⟩, hce, hcv, hcl, st⟩
  · cases hv
    obtain ⟨k1, k2, k3⟩ := vx_keep h0 e1 hS hA hf hL hF
    obtain ⟨t2, a1, b1⟩ := kk r u t T'.heap (locs ++ L) e1.symm (by rw [← e2]; exact X'.warmed.alike) hp hb k1 k2 k3 T' rfl X'
    exact ⟨t2, st t2 a1, b1⟩
  · obtain ⟨k1, k2, k3⟩ := vx_keep h0 e1 hS hAX hf hL hF
    obtain ⟨t2, a1, b1⟩ := kx E ce q u t T'.heap (locs ++ L) e1.symm (by rw [← e2]; exact X'.warmed.alike) hp hb k1 k2 k3 (by rw [e1]; exact hce) hcv hcl T' rfl X'
    exact ⟨t2, st.trans a1, b1⟩
theorem vx_calld {S SX : Type} {post : UInt64 → S → Prop} {px : SX → Prop} {B : S → State → Prop} {BX : String → SX → State → Prop} {AX : Nat → Prop} (hr : vx_Run p l e R s m args below meth c H locs cells slots mc ms (F0 m pc ls st0) rest (va_Qd post B A1 a) (vx_X px BX AX) free) (hS : va_S A0 H0 H locs) (hA : ∀ q, q < H.size → A1 q → A0 q) (hf : ∀ q, free q → A0 q) (hAX : ∀ q, q < H.size → AX q → A0 q)
    (kx : ∀ (E : String) (ce : Cell) (q9 : Addr) (u : SX) (t : State) (H1 : Heap) (locs1 : List Loc), t.heap = H1 → s.vm.Alike t.vm → px u → BX E u t → H.size ≤ H1.size → (∀ q : Nat, q < H.size → ¬ AX q → H1[q]? = H[q]?) → va_S A0 H0 H1 locs1 → H1[q9]? = some ce → ce.vm = .none → s.vm.findClass E = some ce.cls → vx_W p l e R s m args below meth c H1 locs1 (cells + mc) (slots + ms) Q (F0 m pc ls rest) q9)
    (kk : ∀ (r : UInt64) (u : S) (t : State) (H1 : Heap) (locs1 : List Loc), t.heap = H1 → s.vm.Alike t.vm → post r u → B u t → H.size ≤ H1.size → (∀ q : Nat, q < H.size → ¬ A1 q → H1[q]? = H[q]?) → va_S A0 H0 H1 locs1 → W p l e R s m args below meth c H1 locs1 (cells + mc) (slots + ms) Q (F0 m (pc + 3) ls (.double r :: rest))) : W p l e R s m args below meth c H locs cells slots Q (F0 m pc ls st0) := by
  intro T hT X
  rcases hr T hT X with ⟨v, st₀, t, T', L, h0, X', hL, e1, e2, ⟨⟨r, u, hv, hp, hb⟩, hF⟩, st⟩ | ⟨q, st₀, t, T', L, E, ce, h0, X', hL, e1, e2, ⟨u, hp, hb, hF⟩, hce, hcv, hcl, st⟩
  · cases hv
    obtain ⟨k1, k2, k3⟩ := vx_keep h0 e1 hS hA hf hL hF
    obtain ⟨t2, a1, b1⟩ := kk r u t T'.heap (locs ++ L) e1.symm (by rw [← e2]; exact X'.warmed.alike) hp hb k1 k2 k3 T' rfl X'
    exact ⟨t2, st t2 a1, b1⟩
  · obtain ⟨k1, k2, k3⟩ := vx_keep h0 e1 hS hAX hf hL hF
    obtain ⟨t2, a1, b1⟩ := kx E ce q u t T'.heap (locs ++ L) e1.symm (by rw [← e2]; exact X'.warmed.alike) hp hb k1 k2 k3 (by rw [e1]; exact hce) hcv hcl T' rfl X'
    exact ⟨t2, st.trans a1, b1⟩
theorem vx_callv {S SX : Type} {post : S → Prop} {px : SX → Prop} {B : S → State → Prop} {BX : String → SX → State → Prop} {AX : Nat → Prop} (hr : vx_Run p l e R s m args below meth c H locs cells slots mc ms (F0 m pc ls st0) rest (va_Qv post B A1 a) (vx_X px BX AX) free) (hS : va_S A0 H0 H locs) (hA : ∀ q, q < H.size → A1 q → A0 q) (hf : ∀ q, free q → A0 q) (hAX : ∀ q, q < H.size → AX q → A0 q)
    (kx : ∀ (E : String) (ce : Cell) (q9 : Addr) (u : SX) (t : State) (H1 : Heap) (locs1 : List Loc), t.heap = H1 → s.vm.Alike t.vm → px u → BX E u t → H.size ≤ H1.size → (∀ q : Nat, q < H.size → ¬ AX q → H1[q]? = H[q]?) → va_S A0 H0 H1 locs1 → H1[q9]? = some ce → ce.vm = .none → s.vm.findClass E = some ce.cls → vx_W p l e R s m args below meth c H1 locs1 (cells + mc) (slots + ms) Q (F0 m pc ls rest) q9)
    (kk : ∀ (u : S) (t : State) (H1 : Heap) (locs1 : List Loc), t.heap = H1 → s.vm.Alike t.vm → post u → B u t → H.size ≤ H1.size → (∀ q : Nat, q < H.size → ¬ A1 q → H1[q]? = H[q]?) → va_S A0 H0 H1 locs1 → W p l e R s m args below meth c H1 locs1 (cells + mc) (slots + ms) Q (F0 m (pc + 3) ls (rest))) : W p l e R s m args below meth c H locs cells slots Q (F0 m pc ls st0) := by
  intro T hT X
  rcases hr T hT X with ⟨v, st₀, t, T', L, h0, X', hL, e1, e2, ⟨⟨u, hv, hp, hb⟩, hF⟩, st⟩ | ⟨q, st₀, t, T', L, E, ce, h0, X', hL, e1, e2, ⟨u, hp, hb, hF⟩, hce, hcv, hcl, st⟩
  · cases hv
    obtain ⟨k1, k2, k3⟩ := vx_keep h0 e1 hS hA hf hL hF
    obtain ⟨t2, a1, b1⟩ := kk u t T'.heap (locs ++ L) e1.symm (by rw [← e2]; exact X'.warmed.alike) hp hb k1 k2 k3 T' rfl X'
    exact ⟨t2, st t2 a1, b1⟩
  · obtain ⟨k1, k2, k3⟩ := vx_keep h0 e1 hS hAX hf hL hF
    obtain ⟨t2, a1, b1⟩ := kx E ce q u t T'.heap (locs ++ L) e1.symm (by rw [← e2]; exact X'.warmed.alike) hp hb k1 k2 k3 (by rw [e1]; exact hce) hcv hcl T' rfl X'
    exact ⟨t2, st.trans a1, b1⟩
/-- caught by the row x of this method's table; the rows ahead don't take it -/
theorem vx_catch {own name : String} {E : String} {ce : Cell} {q : Addr} (hown : s.vm.findClass own = some m.cls) (pre : List ExceptionTableEntry) (x : ExceptionTableEntry) (suf : List ExceptionTableEntry) (hsplit : c.exceptionTable.toList = pre ++ x :: suf)
    (hpass : ∀ z ∈ pre, covers z pc = false ∨ (z.catchType ≠ 0 ∧ ∃ nm : String, (Cond.classLink own z.catchType nm).before args s = true ∧ va_Nc E nm s)) (hx : covers x pc = true) (h0 : x.catchType ≠ 0)
    (hlink : (Cond.classLink own x.catchType name).before args s = true) (hcast : (Cond.castable E name).before args s = true) (hcell : H[q]? = some ce) (hv : ce.vm = .none) (hcl : s.vm.findClass E = some ce.cls)
    (kk : W p l e R s m args below meth c H locs cells slots Q (F0 m x.handlerPc ls [.ref q])) : vx_W p l e R s m args below meth c H locs cells slots Q (F0 m pc ls rest) q := by
  intro T hT X
  have hpl : e.platform.magicAccessors = ({} : Platform).magicAccessors := by rw [X.admits.platform]
  obtain ⟨c3, c4, hc3, hc4, hasg⟩ := Cond.castable_spec hcast
  cases Option.some.inj (hc3.symm.trans hcl)
  obtain ⟨c5, hc5, hcl5⟩ := Cond.classLink_spec hown hlink e.platform hpl
  cases Option.some.inj (hc4.symm.trans hc5)
  obtain ⟨vm', X', st⟩ := X.thenCaughtThrough q (g := F0 m pc ls rest) rfl (Steps.refl _) (by rw [hT]; exact hcell) (by rw [hv]; rfl) (by obtain ⟨k9, h9, -⟩ := Vm.findClass_spec hcl; exact ⟨k9, h9⟩) pre x suf hsplit
    (fun z hz => by
      rcases hpass z hz with h | ⟨hz0, nm, hl1, hn1⟩
      · exact Or.inl h
      · obtain ⟨c6, hc6, hcl6⟩ := Cond.classLink_spec hown hl1 e.platform hpl
        obtain ⟨a8, b8, h1, h2, h3⟩ := hn1
        cases Option.some.inj (h1.symm.trans hcl)
        cases Option.some.inj (h2.symm.trans hc6)
        exact Or.inr ⟨hz0, _, hcl6, h3⟩) hx (Or.inr ⟨h0, c4, hcl5, hasg⟩)
  obtain ⟨t, a1, b1⟩ := kk (T.setVm vm') hT X'
  exact ⟨t, st.trans a1, b1⟩
end Rows
section Ends
variable {p : Program} {l : Launch} {e : Env} {R : Room} {s : State} {m : MethodId} {args : Array Value} {below : List Frame} {meth : Method} {c : Code} {H : Heap} {locs : List Loc} {cells slots : Nat} {Q : State → Prop}
variable {mc ms : Nat} {free : Addr → Prop} {A0 A1 : Nat → Prop} {H0 : Heap} {a : Array Value} {ls : Array Slot} {st0 rest : List Value}
variable {Qc : Array Value → State → Outcome → State → Prop} {XC : String → State → State → Prop}
/-- what a body that may throw owes at its end -/
def vx_MQ (below : List Frame) (Qc : Array Value → State → Outcome → State → Prop) (XC : String → State → State → Prop) (a : Array Value) (s : State) (mc ms : Nat) (free : Addr → Prop) : State → Prop := fun t =>
  ∃ o, t.status = .running ∧ Ended t below o ∧ vx_Q Qc XC mc ms free a s o t
theorem vx_ret {g : JFrame} {mc ms : Nat} (k : W p l e R s m args below meth c H locs cells slots (MQ below Qc args s mc ms free) g) : W p l e R s m args below meth c H locs cells slots (vx_MQ below Qc XC args s mc ms free) g := by
  intro T hT X
  obtain ⟨t, a1, o, b1, b2, b3, b4⟩ := k T hT X
  exact ⟨t, a1, o, b1, b2, Or.inl ⟨b3, b4⟩⟩
/-- not caught here: it goes on to the caller -/
theorem vx_widen {g : JFrame} {q : Addr} {k n : Nat} (h1 : cells ≤ k) (h2 : slots ≤ n) (kk : vx_W p l e R s m args below meth c H locs k n Q g q) : vx_W p l e R s m args below meth c H locs cells slots Q g q := fun T hT X => kk T hT (stand_widen X h1 h2)
theorem vx_out {pc : Nat} {E : String} {ce : Cell} {q : Addr} {mc ms : Nat} (hout : ∀ x ∈ c.exceptionTable.toList, covers x pc = false) (hlocks : meth.locks = false) (hcell : H[q]? = some ce) (hv : ce.vm = .none) (hcl : s.vm.findClass E = some ce.cls)
    (hx : ∀ t : State, t.heap = H → s.vm.Alike t.vm → XC E s t) (hf : ∀ z ∈ locs, free z.base) (hc : cells ≤ mc) (hs : slots ≤ ms) :
    vx_W p l e R s m args below meth c H locs cells slots (vx_MQ below Qc XC args s mc ms free) (F0 m pc ls rest) q := by
  intro T hT X
  obtain ⟨st1, hrun, hend, hW, hsm⟩ := X.leaveThrown q (g := F0 m pc ls rest) rfl rfl rfl hout hlocks
  have hcell9 : (T.setFrames (.throwing q :: below)).heap[q]? = some ce := by
    show T.heap[q]? = some ce
    rw [hT]; exact hcell
  exact ⟨_, st1, .threw q, hrun, hend, Or.inr ⟨q, rfl, E, ce, locs, hx _ hT hW.alike, hcell9, hv, hcl, hW, hsm.mono hc hs, hf⟩⟩
theorem vx_frame {U : State} {k n : Nat} (h : s.sameButNew ({ U with vm := s.vm } : State) locs k n) : s.heap.size ≤ U.heap.size ∧ ∀ q : Nat, q < s.heap.size → (∀ z ∈ locs, z.base ≠ q) → U.heap[q]? = s.heap[q]? := by
  obtain ⟨-, h2, -, -, -, h6⟩ := h
  refine ⟨h2, fun q hq hz => ?_⟩
  obtain ⟨c9, e1, e2, e3, e4⟩ := h6 q _ (Array.getElem?_eq_getElem hq)
  have hs : c9.slots = (s.heap[q]).slots := Array.ext_getElem? fun i => e4 i fun hm => hz _ hm rfl
  have h9 : c9 = s.heap[q] := by
    rw [hs] at e2
    exact e2
  have e5 : U.heap[q]? = some c9 := e1
  rw [e5, h9, Array.getElem?_eq_getElem hq]
/-- the words of a throw but the four that speak of the heap -/
def vx_no (w : Cond) : Bool := decide (w ≠ .isRef (.static Bundle.tN "UNASSIGNED_STACK" Bundle.steD)) && decide (w ≠ .isRef (.static Bundle.tN "SUPPRESSED_SENTINEL" Bundle.listD)) && decide (w ≠ .laysStatic Bundle.tN "UNASSIGNED_STACK" Bundle.steD) && decide (w ≠ .laysStatic Bundle.tN "SUPPRESSED_SENTINEL" Bundle.listD)
def vx_at0 (own : String) (ic : Nat) (X : String) (names : List String) : List Cond := (Bundle.ownAtoms0 own ic X names).filter vx_no
def vx_atS (own : String) (ic : Nat) (X : String) (names : List String) : List Cond := (Bundle.ownAtoms own ic X names).filter vx_no
/-- a word that the tables alone decide, or a good one -/
def vx_ot (w : Cond) : Bool := w.onTables || goodWord w
theorem vx_ot_at {args a' : Array Value} {s U : State} {w : Cond} (hW : s.WarmedH U.vm) (hvm : s.vm = U.vm) (hg : vx_ot w = true) (h : w.before args s = true) : w.before a' U = true := by
  simp only [vx_ot, Bool.or_eq_true] at hg
  rcases hg with hg | hg
  · exact va_tabs hg hvm h
  · exact word_at hW (good_of_word hg) h
/-- a list's words: the good ones out of the method's own list, the others by premises of their own -/
theorem vx_hat {args : Array Value} {s : State} {L B : List Cond} (h1 : ∀ w ∈ L.filter goodWord, w.before args s = true) (h2 : ∀ w ∈ L.filter (fun w => !goodWord w), w ∈ B) (h3 : ∀ w ∈ B, w.before args s = true) : ∀ w ∈ L, w.before args s = true := by
  intro w hw
  by_cases g : goodWord w = true
  · exact h1 w (List.mem_filter.mpr ⟨hw, g⟩)
  · refine h3 w (h2 w (List.mem_filter.mpr ⟨hw, ?_⟩))
    show (!goodWord w) = true
    cases hgw : goodWord w
    · rfl
    · exact absurd hgw g
theorem vx_c {args : Array Value} {s : State} {w : Cond} {B : List Cond} (h : w.before args s = true) (t : ∀ w ∈ B, w.before args s = true) : ∀ w' ∈ w :: B, w'.before args s = true := fun w' h' => (List.mem_cons.mp h').elim (fun e => by rw [e]; exact h) (t w')
theorem vx_n {args : Array Value} {s : State} : ∀ w ∈ ([] : List Cond), w.before args s = true := fun _ h => nomatch h
theorem vx_own {args : Array Value} {s : State} {L : List Cond} (h1 : ∀ w ∈ L.filter vx_no, w.before args s = true)
    (hU : (Cond.isRef (.static Bundle.tN "UNASSIGNED_STACK" Bundle.steD)).before args s = true) (hN : (Cond.isRef (.static Bundle.tN "SUPPRESSED_SENTINEL" Bundle.listD)).before args s = true)
    (lU : (Cond.laysStatic Bundle.tN "UNASSIGNED_STACK" Bundle.steD).before args s = true) (lN : (Cond.laysStatic Bundle.tN "SUPPRESSED_SENTINEL" Bundle.listD).before args s = true) : ∀ w ∈ L, w.before args s = true := by
  intro w hw
  by_cases e1 : w = .isRef (.static Bundle.tN "UNASSIGNED_STACK" Bundle.steD)
  · rw [e1]; exact hU
  · by_cases e2 : w = .isRef (.static Bundle.tN "SUPPRESSED_SENTINEL" Bundle.listD)
    · rw [e2]; exact hN
    · by_cases e3 : w = .laysStatic Bundle.tN "UNASSIGNED_STACK" Bundle.steD
      · rw [e3]; exact lU
      · by_cases e4 : w = .laysStatic Bundle.tN "SUPPRESSED_SENTINEL" Bundle.listD
        · rw [e4]; exact lN
        · exact h1 w (List.mem_filter.mpr ⟨hw, by unfold vx_no; rw [decide_eq_true e1, decide_eq_true e2, decide_eq_true e3, decide_eq_true e4]; rfl⟩)
/-- where a static field lies, its class's statics cell in H -/
def vx_L (C n d : String) (A : Nat → Prop) (U : State) (H : Heap) : Prop := ∃ (c : ClassId) (k : Class) (i : Nat) (f : Field) (a : Nat) (cell : Cell), U.vm.findClass C = some c ∧ U.fieldFound? C n d = some (c, k, i, f) ∧ f.isStatic = true ∧ k.statics = some a ∧ H[a]? = some cell ∧ cell.vm.isStatics = true ∧ cell.cls = c ∧ f.slot < cell.slots.size ∧ k.staticTypes[f.slot]? = some f.type ∧ ¬ A a
theorem vx_L.moved {C n d : String} {A : Nat → Prop} {u U : State} {H : Heap} (hvm : u.vm.Alike U.vm) (h : vx_L C n d A u H) : vx_L C n d A U H := by
  obtain ⟨c, k, i, f, a, cell, h1, h2, h3, h4, h5, h6, h7, h8, h9, h10⟩ := h
  obtain ⟨k', hi', he⟩ := State.fieldFound?_setVm hvm h2
  exact ⟨c, k', i, f, a, cell, by rw [hvm.findClass]; exact h1, hi', h3, by rw [he]; exact h4, h5, h6, h7, h8, by rw [he]; exact h9, h10⟩
theorem vx_L.kept {C n d : String} {A : Nat → Prop} {U : State} {H H1 : Heap} (h : vx_L C n d A U H) (hq : ∀ a : Nat, a < H.size → ¬ A a → H1[a]? = H[a]?) : vx_L C n d A U H1 := by
  obtain ⟨c, k, i, f, a, cell, h1, h2, h3, h4, h5, h6, h7, h8, h9, h10⟩ := h
  exact ⟨c, k, i, f, a, cell, h1, h2, h3, h4, by rw [hq a (Array.getElem?_eq_some_iff.mp h5).1 h10]; exact h5, h6, h7, h8, h9, h10⟩
theorem vx_L.narrow {C n d : String} {A B : Nat → Prop} {U : State} {H : Heap} (h : vx_L C n d A U H) (hAB : ∀ q, B q → A q) : vx_L C n d B U H := by
  obtain ⟨c, k, i, f, a, cell, h1, h2, h3, h4, h5, h6, h7, h8, h9, h10⟩ := h
  exact ⟨c, k, i, f, a, cell, h1, h2, h3, h4, h5, h6, h7, h8, h9, fun z => h10 (hAB _ z)⟩
theorem vx_L.word {C n d : String} {A : Nat → Prop} {s : State} {args : Array Value} (h : vx_L C n d A s s.heap) : (Cond.laysStatic C n d).before args s = true := by
  obtain ⟨c, k, i, f, a, cell, h1, h2, h3, h4, h5, h6, h7, h8, h9, -⟩ := h
  show (Cond.laysStatic C n d).holds args s none s [] = true
  exact Cond.laysStatic_of h1 h2 h3 h4 h5 h6 h7 h8 h9
/-- .. and what it holds: null or some reference -/
def vx_Zq (C n d : String) (A : Nat → Prop) (U : State) (H : Heap) : Prop := va_Zq C n d A U H ∧ vx_L C n d A U H
theorem vx_Zq.moved {C n d : String} {A : Nat → Prop} {u U : State} {H : Heap} (hvm : u.vm.Alike U.vm) (h : vx_Zq C n d A u H) : vx_Zq C n d A U H := ⟨va_Zq.moved hvm h.1, vx_L.moved hvm h.2⟩
theorem vx_Zq.kept {C n d : String} {A : Nat → Prop} {U : State} {H H1 : Heap} (h : vx_Zq C n d A U H) (hq : ∀ a : Nat, a < H.size → ¬ A a → H1[a]? = H[a]?) : vx_Zq C n d A U H1 := ⟨va_Zq.kept h.1 hq, vx_L.kept h.2 hq⟩
theorem vx_Zq.narrow {C n d : String} {A B : Nat → Prop} {U : State} {H : Heap} (h : vx_Zq C n d A U H) (hAB : ∀ q, B q → A q) : vx_Zq C n d B U H := ⟨va_Zq.narrow h.1 hAB, vx_L.narrow h.2 hAB⟩
theorem vx_Zqof {args : Array Value} {s : State} {C n d : String} {A : Nat → Prop} (hl : (Cond.laysStatic C n d).before args s = true) (hini : (Cond.initialized C).before args s = true) (h : (Cond.isRef (.static C n d)).before args s = true) (hA : ∀ a : Nat, a < s.heap.size → ¬ A a) : vx_Zq C n d A s s.heap := by
  refine ⟨va_Zqof hl hini h hA, ?_⟩
  obtain ⟨c, k, i, f, a, cell, h1, h2, h3, h4, h5, h6, h7, h8, h9⟩ := Cond.laysStatic_spec hl
  exact ⟨c, k, i, f, a, cell, h1, h2, h3, h4, h5, h6, h7, h8, h9, hA a (Array.getElem?_eq_some_iff.mp h5).1⟩
theorem vx_isRef {C n d : String} {v : Value} {A : Nat → Prop} {s : State} {args : Array Value} (h : va_Z C n d v A s s.heap) (hv : v.isRef = true) : (Cond.isRef (.static C n d)).before args s = true := by
  obtain ⟨cf, kf, fi, f, a, cell, h1, h2, h3, h4, h5, h6, h7, -⟩ := h
  have he : (Term.static C n d).eval args s none [] s = some v := by
    simp [Term.eval, State.fieldNamed?, h1, h2, h4, h5, h6, h7]
  simp only [Cond.before, Cond.holds, Cond.value, he]
  cases v <;> simp_all [Value.isRef]
theorem vx_isRefq {C n d : String} {A : Nat → Prop} {s : State} {args : Array Value} (h : va_Zq C n d A s s.heap) : (Cond.isRef (.static C n d)).before args s = true := by
  rcases h with h | ⟨t, h⟩
  · exact vx_isRef h rfl
  · exact vx_isRef h rfl
/-- the same frame, seen from here: as if the method were called anew in this heap -/
theorem vx_rebase {T : State} (X : Stand p l e R s m args below meth c T locs cells slots) {R' : Room} (hf : R'.frames ≤ R.frames) (hl : R'.locals ≤ R.locals) (hc : cells + R'.cells ≤ R.cells) (hs : slots + R'.slots ≤ R.slots) :
    Stand p l e R' ((T.setVm s.vm).setFrames (.invoking m args :: below)) m args below meth c T [] 0 0 := by
  have htop : (T.setVm s.vm).topJava?.isSome := X.here.top
  have hF : ((T.setVm s.vm).setFrames (.invoking m args :: below)).frames = .invoking m args :: below := State.frames_setFrames _ (State.cur_lt_of_top htop)
  obtain ⟨g₀, hg0⟩ := Option.isSome_iff_exists.mp htop
  obtain ⟨r, hr⟩ := State.topJava?_eq_some.mp hg0
  have hl9 : e.platform.stackLimits (T.setVm s.vm).me = e.platform.stackLimits s.me := X.limits
  have hb9 : (T.setVm s.vm).me.stackBytes = s.me.stackBytes := X.bytes
  refine ⟨X.admits, X.cas, X.clock, hF, ?_, X.hears, X.method, X.code, X.here, X.tail, X.warmed, ?_, ?_, ?_⟩
  · have h := X.room
    have hU : ((T.setVm s.vm).setFrames (.invoking m args :: below)).localsInUse = s.localsInUse := by
      rw [State.localsInUse_invoking hF (meth := meth) (c := c) X.method X.code, State.localsInUse_invoking X.frames X.method X.code]
    simp only [State.hasRoom, Bool.and_eq_true, decide_eq_true_eq] at h ⊢
    obtain ⟨⟨⟨⟨h1, h2, h3, h4, h5, h6⟩, h7⟩, h8⟩, h9⟩ := h
    rw [X.frames, List.length_cons] at h2 h3
    have q1 := X.heapSize
    have q2 := X.used
    simp only [hF, hU, List.length_cons, State.stackLimits_setFrames, State.stackBytes_setFrames, hl9, hb9]
    refine ⟨⟨⟨⟨by omega, by omega, by omega, by omega, by omega, h6⟩, ?_⟩, ?_⟩, X.book⟩
    · show T.heap.size + R'.cells ≤ e.platform.maxCells
      omega
    · show T.slotsUsed + R'.slots ≤ e.platform.maxSlots
      omega
  · rw [State.stackLimits_setFrames]; rfl
  · rw [State.stackBytes_setFrames]; rfl
  · refine ⟨?_, Nat.le_refl _, Nat.le_refl _, ?_, ?_, fun a c9 h9 => ⟨c9, h9, rfl, rfl, fun _ _ => rfl⟩⟩
    · obtain ⟨t, ht, -⟩ := State.frames_cons hr
      show T.setVm s.vm = { ((T.setVm s.vm).setFrames (.invoking m args :: below)).setFrames (T.setVm s.vm).frames with heap := T.heap, slotsUsed := T.slotsUsed }
      rw [State.setFrames_setFrames, State.setFrames_self ht]
      rfl
    · show T.slotsUsed = T.slotsUsed + ((T.heap.toList.drop T.heap.size).map (·.slots.size)).sum
      rw [List.drop_eq_nil_of_le (Nat.le_of_eq Array.length_toList)]
      rfl
    · show ((T.heap.toList.drop T.heap.size).map (·.slots.size)).sum ≤ 0
      rw [List.drop_eq_nil_of_le (Nat.le_of_eq Array.length_toList)]
      exact Nat.le_refl _
/-- 'throw new E()': new; dup; invokespecial; athrow -/
theorem vx_throw0 {cc : ByteArray} {pc : Nat} (hexec : p.tables.exec = Jvm.exec) (hb : c.code = cc) (hl : l.stackTraces = false) {own cls : String} {names : List String} {ik ic mc ms : Nat} {A : Nat → Prop}
    (hown : s.vm.findClass own = some m.cls) (hcls : Bundle.fit cls = true) (hnames : ∀ n ∈ names, Bundle.fit n = true)
    (hk : (Cond.classLink own ik cls).before args s = true) (hini : (Cond.initialized cls).before args s = true) (hat : ∀ w ∈ vx_at0 own ic cls names, w.before args s = true)
    (hgood : ∀ w ∈ Cond.classLink own ik cls :: Cond.initialized cls :: vx_at0 own ic cls names, vx_ot w = true)
    (hU : vx_Zq Bundle.tN "UNASSIGNED_STACK" Bundle.steD A s s.heap) (hN : vx_Zq Bundle.tN "SUPPRESSED_SENTINEL" Bundle.listD A s s.heap) (hS : va_S A s.heap H locs) (hsize : ls.size = c.maxLocals)
    (d0 : decode cc pc = .ok (.new ik, 3)) (d3 : decode cc (pc + 3) = .ok (.dup, 1)) (d4 : decode cc (pc + 4) = .ok (.invokespecial ic, 3)) (d7 : decode cc (pc + 7) = .ok (.athrow, 1))
    (hout : ∀ x ∈ c.exceptionTable.toList, covers x (pc + 7) = false)
    (hRframes : names.length + 3 < R.frames) (hRlocals : (rest.map fun v => v.category).sum + (13 * (names.length + 1) + 42) ≤ R.locals) (hRcells : cells + 1 ≤ R.cells) (hRslots : slots + 6 ≤ R.slots) (hlocks : meth.locks = false)
    (hx : ∀ t : State, s.vm.Alike t.vm → H.size ≤ t.heap.size → (∀ q : Nat, q < H.size → t.heap[q]? = H[q]?) → XC cls s t)
    (hf : ∀ z ∈ locs, free z.base) (hc : cells + 1 ≤ mc) (hs : slots + 6 ≤ ms) :
    W p l e R s m args below meth c H locs cells slots (vx_MQ below Qc XC args s mc ms free) (F0 m pc ls rest) := by
  intro T hT X
  have htr : e.platform.stackTraces = false := (show e.platform.stackTraces = l.stackTraces by rw [X.admits.platform]).trans hl
  have Y := vx_rebase X (R' := { frames := R.frames, locals := R.locals, cells := 1, slots := 6 }) (Nat.le_refl _) (Nat.le_refl _) hRcells hRslots
  obtain ⟨s', hA⟩ : ∃ z, z = (T.setVm s.vm).setFrames (.invoking m args :: below) := ⟨_, rfl⟩
  rw [← hA] at Y
  have hvm : s'.vm = s.vm := by rw [hA]; rfl
  have hhp : s'.heap = H := by rw [hA]; exact hT
  have hW0 : s.WarmedH s'.vm := by rw [hvm]; exact State.WarmedH.refl s
  have hat' : ∀ w ∈ vx_at0 own ic cls names, w.before args s' = true := fun w hw => vx_ot_at hW0 hvm.symm (hgood w (List.mem_cons_of_mem _ (List.mem_cons_of_mem _ hw))) (hat w hw)
  have hk' : (Cond.classLink own ik cls).before args s' = true := vx_ot_at hW0 hvm.symm (hgood _ List.mem_cons_self) hk
  have hini' : (Cond.initialized cls).before args s' = true := vx_ot_at hW0 hvm.symm (hgood _ (List.mem_cons_of_mem _ List.mem_cons_self)) hini
  have hU' : vx_Zq Bundle.tN "UNASSIGNED_STACK" Bundle.steD A s' s'.heap := by rw [hhp]; exact vx_Zq.moved hW0.alike (hU.kept hS.2.1)
  have hN' : vx_Zq Bundle.tN "SUPPRESSED_SENTINEL" Bundle.listD A s' s'.heap := by rw [hhp]; exact vx_Zq.moved hW0.alike (hN.kept hS.2.1)
  have h : ∀ w ∈ Bundle.ownAtoms0 own ic cls names, w.before args s' = true := vx_own hat' (vx_isRefq hU'.1) (vx_isRefq hN'.1) hU'.2.word hN'.2.word
  have hown' : s'.vm.findClass own = some m.cls := by rw [hvm]; exact hown
  have hins : (Cond.instantiable cls 6).before args s' = true := h _ (by simp [Bundle.ownAtoms0])
  obtain ⟨vm₁, cX, kX, hfX, hkX, -, -, X₁, st1⟩ := Y.newCold hexec (own := own) (C := cls) (index := ik) (n := 6) hown' hk' hins hini'
    (g := F0 m pc ls rest) rfl (by rw [hb]; exact d0) (Nat.le_refl _) (Nat.le_refl _)
  generalize hT1 : (T.setVm vm₁).pushCell { cls := cX, slots := kX.instanceTypes.map defaultValue, vm := .none } = T1 at X₁ st1
  have hcat : (Value.ref T.heap.size).category = 1 := rfl
  have hcellA : T1.heap[T.heap.size]? = some (freshCell cX kX) := by rw [← hT1]; exact State.heap_pushCell_size _ _
  have d3' : decode c.code (pc + 3) = .ok (.dup, 1) := by rw [hb]; exact d3
  obtain ⟨U, hsteps, hrun, hend, hW, hsame, ce, hce, hO⟩ := X₁.ctorThrow0 hexec htr (own := own) (cls := cls) (names := names) (ic := ic) hown' hcls hnames h (fun x hx => nomatch hx) hfX hkX hcellA (by rw [hhp, hT]; exact Nat.le_refl _)
    (g := { method := m, pc := pc + 4, locals := ls, stack := .ref T.heap.size :: .ref T.heap.size :: rest, locked := none }) rfl hsize rfl rfl (rest := rest) rfl
    (by rw [hb]; exact d4) (by rw [hb]; exact d7) hout hRframes (by simp only [List.map_cons, List.sum_cons, hcat]; omega) hlocks
  obtain ⟨f1, f2⟩ := vx_frame hsame
  rw [hhp] at f1 f2
  have hWs : s.WarmedH U.vm := State.WarmedH.trans hW0 hW
  have hcl : s.vm.findClass cls = some ce.cls := by
    have h9 := hO.cls
    rw [hvm] at h9
    exact h9
  have hall : s.sameButNew ({ U with vm := s.vm } : State) locs mc ms := by
    subst hA
    obtain ⟨e1, e2⟩ := hsame
    rw [State.setFrames_setFrames] at e1
    have h2 : (T.setVm s.vm).sameButNew ({ U with vm := s.vm } : State) [] (0 + 1) (0 + 6) := ⟨e1, e2⟩
    have h3 := X.same.trans h2
    rw [List.append_nil] at h3
    exact h3.mono hc hs
  refine ⟨U, ?_, .threw T.heap.size, hrun, hend, Or.inr ⟨T.heap.size, rfl, cls, ce, locs, hx U hWs.alike f1 (fun q hq => f2 q hq (fun z hz => nomatch hz)), hce, hO.vm, hcl, hWs, hall, hf⟩⟩
  refine st1 _ ?_
  show Steps p.tables e below (T1.setTop { method := m, pc := pc + 3, locals := ls, stack := .ref T.heap.size :: rest, locked := none }) _
  jvm_step X₁.here [X₁.here.top, hexec, d3', Value.category]
  exact hsteps
/-- 'throw new E("text")': new; dup; ldc; invokespecial; athrow -/
theorem vx_throwS {cc : ByteArray} {pc : Nat} (hexec : p.tables.exec = Jvm.exec) (hb : c.code = cc) (hl : l.stackTraces = false) {own cls text : String} {names : List String} {ik is ic mc ms sa : Nat} {A : Nat → Prop}
    (hown : s.vm.findClass own = some m.cls) (hcls : Bundle.fit cls = true) (hnames : ∀ n ∈ names, Bundle.fit n = true)
    (hk : (Cond.classLink own ik cls).before args s = true) (hini : (Cond.initialized cls).before args s = true) (hstr : vk_R own is text sa s) (hat : ∀ w ∈ vx_atS own ic cls names, w.before args s = true)
    (hgood : ∀ w ∈ Cond.classLink own ik cls :: Cond.initialized cls :: vx_atS own ic cls names, vx_ot w = true)
    (hU : vx_Zq Bundle.tN "UNASSIGNED_STACK" Bundle.steD A s s.heap) (hN : vx_Zq Bundle.tN "SUPPRESSED_SENTINEL" Bundle.listD A s s.heap) (hS : va_S A s.heap H locs) (hsize : ls.size = c.maxLocals)
    (d0 : decode cc pc = .ok (.new ik, 3)) (d3 : decode cc (pc + 3) = .ok (.dup, 1)) (d4 : decode cc (pc + 4) = .ok (.ldc is, 2)) (d6 : decode cc (pc + 6) = .ok (.invokespecial ic, 3)) (d9 : decode cc (pc + 9) = .ok (.athrow, 1))
    (hout : ∀ x ∈ c.exceptionTable.toList, covers x (pc + 9) = false)
    (hRframes : names.length + 3 < R.frames) (hRlocals : (rest.map fun v => v.category).sum + (13 * (names.length + 1) + 43) ≤ R.locals) (hRcells : cells + 1 ≤ R.cells) (hRslots : slots + 6 ≤ R.slots) (hlocks : meth.locks = false)
    (hx : ∀ t : State, s.vm.Alike t.vm → H.size ≤ t.heap.size → (∀ q : Nat, q < H.size → t.heap[q]? = H[q]?) → XC cls s t)
    (hf : ∀ z ∈ locs, free z.base) (hc : cells + 1 ≤ mc) (hs : slots + 6 ≤ ms) :
    W p l e R s m args below meth c H locs cells slots (vx_MQ below Qc XC args s mc ms free) (F0 m pc ls rest) := by
  intro T hT X
  have htr : e.platform.stackTraces = false := (show e.platform.stackTraces = l.stackTraces by rw [X.admits.platform]).trans hl
  have Y := vx_rebase X (R' := { frames := R.frames, locals := R.locals, cells := 1, slots := 6 }) (Nat.le_refl _) (Nat.le_refl _) hRcells hRslots
  obtain ⟨s', hA⟩ : ∃ z, z = (T.setVm s.vm).setFrames (.invoking m args :: below) := ⟨_, rfl⟩
  rw [← hA] at Y
  have hvm : s'.vm = s.vm := by rw [hA]; rfl
  have hhp : s'.heap = H := by rw [hA]; exact hT
  have hW0 : s.WarmedH s'.vm := by rw [hvm]; exact State.WarmedH.refl s
  have hat' : ∀ w ∈ vx_atS own ic cls names, w.before args s' = true := fun w hw => vx_ot_at hW0 hvm.symm (hgood w (List.mem_cons_of_mem _ (List.mem_cons_of_mem _ hw))) (hat w hw)
  have hk' : (Cond.classLink own ik cls).before args s' = true := vx_ot_at hW0 hvm.symm (hgood _ List.mem_cons_self) hk
  have hini' : (Cond.initialized cls).before args s' = true := vx_ot_at hW0 hvm.symm (hgood _ (List.mem_cons_of_mem _ List.mem_cons_self)) hini
  have hU' : vx_Zq Bundle.tN "UNASSIGNED_STACK" Bundle.steD A s' s'.heap := by rw [hhp]; exact vx_Zq.moved hW0.alike (hU.kept hS.2.1)
  have hN' : vx_Zq Bundle.tN "SUPPRESSED_SENTINEL" Bundle.listD A s' s'.heap := by rw [hhp]; exact vx_Zq.moved hW0.alike (hN.kept hS.2.1)
  have h : ∀ w ∈ Bundle.ownAtoms own ic cls names, w.before args s' = true := vx_own hat' (vx_isRefq hU'.1) (vx_isRefq hN'.1) hU'.2.word hN'.2.word
  have hown' : s'.vm.findClass own = some m.cls := by rw [hvm]; exact hown
  have hins : (Cond.instantiable cls 6).before args s' = true := h _ (by simp [Bundle.ownAtoms])
  obtain ⟨vm₁, cX, kX, hfX, hkX, -, -, X₁, st1⟩ := Y.newCold hexec (own := own) (C := cls) (index := ik) (n := 6) hown' hk' hins hini'
    (g := F0 m pc ls rest) rfl (by rw [hb]; exact d0) (Nat.le_refl _) (Nat.le_refl _)
  generalize hT1 : (T.setVm vm₁).pushCell { cls := cX, slots := kX.instanceTypes.map defaultValue, vm := .none } = T1 at X₁ st1
  have hcat : (Value.ref T.heap.size).category = 1 := rfl
  have hcellA : T1.heap[T.heap.size]? = some (freshCell cX kX) := by rw [← hT1]; exact State.heap_pushCell_size _ _
  have d3' : decode c.code (pc + 3) = .ok (.dup, 1) := by rw [hb]; exact d3
  have d4' : decode c.code (pc + 4) = .ok (.ldc is, 2) := by rw [hb]; exact d4
  have hstr' : vk_R own is text sa s' := vk_R.warm hW0 hstr
  obtain ⟨U, hsteps, hrun, hend, hW, hsame, ce, hce, hO⟩ := X₁.ctorThrowS hexec htr (own := own) (cls := cls) (names := names) (ic := ic) hown' hcls hnames h (fun x hx => nomatch hx) hfX hkX hcellA (by rw [hhp, hT]; exact Nat.le_refl _) (msg := .ref sa) rfl
    (g := { method := m, pc := pc + 6, locals := ls, stack := .ref sa :: .ref T.heap.size :: .ref T.heap.size :: rest, locked := none }) rfl hsize rfl rfl (rest := rest) rfl
    (by rw [hb]; exact d6) (by rw [hb]; exact d9) hout hRframes (by simp only [List.map_cons, List.sum_cons, hcat]; omega) hlocks
  obtain ⟨f1, f2⟩ := vx_frame hsame
  rw [hhp] at f1 f2
  have hWs : s.WarmedH U.vm := State.WarmedH.trans hW0 hW
  have hcl : s.vm.findClass cls = some ce.cls := by
    have h9 := hO.cls
    rw [hvm] at h9
    exact h9
  have hall : s.sameButNew ({ U with vm := s.vm } : State) locs mc ms := by
    subst hA
    obtain ⟨e1, e2⟩ := hsame
    rw [State.setFrames_setFrames] at e1
    have h2 : (T.setVm s.vm).sameButNew ({ U with vm := s.vm } : State) [] (0 + 1) (0 + 6) := ⟨e1, e2⟩
    have h3 := X.same.trans h2
    rw [List.append_nil] at h3
    exact h3.mono hc hs
  refine ⟨U, ?_, .threw T.heap.size, hrun, hend, Or.inr ⟨T.heap.size, rfl, cls, ce, locs, hx U hWs.alike f1 (fun q hq => f2 q hq (fun z hz => nomatch hz)), hce, hO.vm, hcl, hWs, hall, hf⟩⟩
  refine st1 _ ?_
  show Steps p.tables e below (T1.setTop { method := m, pc := pc + 3, locals := ls, stack := .ref T.heap.size :: rest, locked := none }) _
  jvm_step X₁.here [X₁.here.top, hexec, d3', Value.category]
  exact X₁.ldcString hexec (own := own) (text := text) (index := is) (a := sa) hown' hstr'.1 hstr'.2
    (g := { method := m, pc := pc + 4, locals := ls, stack := .ref T.heap.size :: .ref T.heap.size :: rest, locked := none }) rfl d4' _ hsteps
/-- 'throw new E("text")', the text by a wide index -/
theorem vx_throwSW {cc : ByteArray} {pc : Nat} (hexec : p.tables.exec = Jvm.exec) (hb : c.code = cc) (hl : l.stackTraces = false) {own cls text : String} {names : List String} {ik is ic mc ms sa : Nat} {A : Nat → Prop}
    (hown : s.vm.findClass own = some m.cls) (hcls : Bundle.fit cls = true) (hnames : ∀ n ∈ names, Bundle.fit n = true)
    (hk : (Cond.classLink own ik cls).before args s = true) (hini : (Cond.initialized cls).before args s = true) (hstr : vk_R own is text sa s) (hat : ∀ w ∈ vx_atS own ic cls names, w.before args s = true)
    (hgood : ∀ w ∈ Cond.classLink own ik cls :: Cond.initialized cls :: vx_atS own ic cls names, vx_ot w = true)
    (hU : vx_Zq Bundle.tN "UNASSIGNED_STACK" Bundle.steD A s s.heap) (hN : vx_Zq Bundle.tN "SUPPRESSED_SENTINEL" Bundle.listD A s s.heap) (hS : va_S A s.heap H locs) (hsize : ls.size = c.maxLocals)
    (d0 : decode cc pc = .ok (.new ik, 3)) (d3 : decode cc (pc + 3) = .ok (.dup, 1)) (d4 : decode cc (pc + 4) = .ok (.ldc_w is, 3)) (d7 : decode cc (pc + 7) = .ok (.invokespecial ic, 3)) (d10 : decode cc (pc + 10) = .ok (.athrow, 1))
    (hout : ∀ x ∈ c.exceptionTable.toList, covers x (pc + 10) = false)
    (hRframes : names.length + 3 < R.frames) (hRlocals : (rest.map fun v => v.category).sum + (13 * (names.length + 1) + 43) ≤ R.locals) (hRcells : cells + 1 ≤ R.cells) (hRslots : slots + 6 ≤ R.slots) (hlocks : meth.locks = false)
    (hx : ∀ t : State, s.vm.Alike t.vm → H.size ≤ t.heap.size → (∀ q : Nat, q < H.size → t.heap[q]? = H[q]?) → XC cls s t)
    (hf : ∀ z ∈ locs, free z.base) (hc : cells + 1 ≤ mc) (hs : slots + 6 ≤ ms) :
    W p l e R s m args below meth c H locs cells slots (vx_MQ below Qc XC args s mc ms free) (F0 m pc ls rest) := by
  intro T hT X
  have htr : e.platform.stackTraces = false := (show e.platform.stackTraces = l.stackTraces by rw [X.admits.platform]).trans hl
  have Y := vx_rebase X (R' := { frames := R.frames, locals := R.locals, cells := 1, slots := 6 }) (Nat.le_refl _) (Nat.le_refl _) hRcells hRslots
  obtain ⟨s', hA⟩ : ∃ z, z = (T.setVm s.vm).setFrames (.invoking m args :: below) := ⟨_, rfl⟩
  rw [← hA] at Y
  have hvm : s'.vm = s.vm := by rw [hA]; rfl
  have hhp : s'.heap = H := by rw [hA]; exact hT
  have hW0 : s.WarmedH s'.vm := by rw [hvm]; exact State.WarmedH.refl s
  have hat' : ∀ w ∈ vx_atS own ic cls names, w.before args s' = true := fun w hw => vx_ot_at hW0 hvm.symm (hgood w (List.mem_cons_of_mem _ (List.mem_cons_of_mem _ hw))) (hat w hw)
  have hk' : (Cond.classLink own ik cls).before args s' = true := vx_ot_at hW0 hvm.symm (hgood _ List.mem_cons_self) hk
  have hini' : (Cond.initialized cls).before args s' = true := vx_ot_at hW0 hvm.symm (hgood _ (List.mem_cons_of_mem _ List.mem_cons_self)) hini
  have hU' : vx_Zq Bundle.tN "UNASSIGNED_STACK" Bundle.steD A s' s'.heap := by rw [hhp]; exact vx_Zq.moved hW0.alike (hU.kept hS.2.1)
  have hN' : vx_Zq Bundle.tN "SUPPRESSED_SENTINEL" Bundle.listD A s' s'.heap := by rw [hhp]; exact vx_Zq.moved hW0.alike (hN.kept hS.2.1)
  have h : ∀ w ∈ Bundle.ownAtoms own ic cls names, w.before args s' = true := vx_own hat' (vx_isRefq hU'.1) (vx_isRefq hN'.1) hU'.2.word hN'.2.word
  have hown' : s'.vm.findClass own = some m.cls := by rw [hvm]; exact hown
  have hins : (Cond.instantiable cls 6).before args s' = true := h _ (by simp [Bundle.ownAtoms])
  obtain ⟨vm₁, cX, kX, hfX, hkX, -, -, X₁, st1⟩ := Y.newCold hexec (own := own) (C := cls) (index := ik) (n := 6) hown' hk' hins hini'
    (g := F0 m pc ls rest) rfl (by rw [hb]; exact d0) (Nat.le_refl _) (Nat.le_refl _)
  generalize hT1 : (T.setVm vm₁).pushCell { cls := cX, slots := kX.instanceTypes.map defaultValue, vm := .none } = T1 at X₁ st1
  have hcat : (Value.ref T.heap.size).category = 1 := rfl
  have hcellA : T1.heap[T.heap.size]? = some (freshCell cX kX) := by rw [← hT1]; exact State.heap_pushCell_size _ _
  have d3' : decode c.code (pc + 3) = .ok (.dup, 1) := by rw [hb]; exact d3
  have d4' : decode c.code (pc + 4) = .ok (.ldc_w is, 3) := by rw [hb]; exact d4
  have hstr' : vk_R own is text sa s' := vk_R.warm hW0 hstr
  obtain ⟨U, hsteps, hrun, hend, hW, hsame, ce, hce, hO⟩ := X₁.ctorThrowS hexec htr (own := own) (cls := cls) (names := names) (ic := ic) hown' hcls hnames h (fun x hx => nomatch hx) hfX hkX hcellA (by rw [hhp, hT]; exact Nat.le_refl _) (msg := .ref sa) rfl
    (g := { method := m, pc := pc + 7, locals := ls, stack := .ref sa :: .ref T.heap.size :: .ref T.heap.size :: rest, locked := none }) rfl hsize rfl rfl (rest := rest) rfl
    (by rw [hb]; exact d7) (by rw [hb]; exact d10) hout hRframes (by simp only [List.map_cons, List.sum_cons, hcat]; omega) hlocks
  obtain ⟨f1, f2⟩ := vx_frame hsame
  rw [hhp] at f1 f2
  have hWs : s.WarmedH U.vm := State.WarmedH.trans hW0 hW
  have hcl : s.vm.findClass cls = some ce.cls := by
    have h9 := hO.cls
    rw [hvm] at h9
    exact h9
  have hall : s.sameButNew ({ U with vm := s.vm } : State) locs mc ms := by
    subst hA
    obtain ⟨e1, e2⟩ := hsame
    rw [State.setFrames_setFrames] at e1
    have h2 : (T.setVm s.vm).sameButNew ({ U with vm := s.vm } : State) [] (0 + 1) (0 + 6) := ⟨e1, e2⟩
    have h3 := X.same.trans h2
    rw [List.append_nil] at h3
    exact h3.mono hc hs
  refine ⟨U, ?_, .threw T.heap.size, hrun, hend, Or.inr ⟨T.heap.size, rfl, cls, ce, locs, hx U hWs.alike f1 (fun q hq => f2 q hq (fun z hz => nomatch hz)), hce, hO.vm, hcl, hWs, hall, hf⟩⟩
  refine st1 _ ?_
  show Steps p.tables e below (T1.setTop { method := m, pc := pc + 3, locals := ls, stack := .ref T.heap.size :: rest, locked := none }) _
  jvm_step X₁.here [X₁.here.top, hexec, d3', Value.category]
  exact X₁.ldcStringW hexec (own := own) (text := text) (index := is) (a := sa) hown' hstr'.1 hstr'.2
    (g := { method := m, pc := pc + 4, locals := ls, stack := .ref T.heap.size :: .ref T.heap.size :: rest, locked := none }) rfl d4' _ hsteps
end Ends
section Bodies
variable {l : Launch}
theorem vx_ofW {y : MethodName} {ws ws' : List Cond} {rm : Room} {Pc : Array Value → State → Prop} {Qc : Array Value → State → Outcome → State → Prop} {XC : String → State → State → Prop} {mc ms : Nat} {free : Addr → Prop} {cc : ByteArray} {maxL : Nat} {ret : Option FieldType}
    (hy : plainName y.cls = true) (hw : ws = Cond.code y cc maxL ret :: ws')
    (body : ∀ p e s m args below meth c s₁, BodyLoose p l y (headSpec ws rm) cc maxL ret e s m args below meth c s₁ → c.maxLocals = maxL → (∀ x ∈ c.exceptionTable.toList, False) → Pc args s →
      W p l e (headSpec ws rm).room s m args below meth c s.heap [] 0 0 (vx_MQ below Qc XC args s mc ms free) (entryFrame m args maxL)) : vx_Met l y ws rm Pc Qc XC mc ms free := by
  refine MetFree.of_bodyS (code := cc) (maxLocals := maxL) (ret := ret) hy ?_ ?_
  · intro args s m h hn
    obtain ⟨meth, c, h1, h2, h3, h4, h5, h6, -, -⟩ := Cond.code_spec hn (atoms_spec (ws := ws) h _ (by rw [hw]; exact List.mem_cons_self))
    exact ⟨meth, c, h1, h2, h3, h4, h5, h6⟩
  · intro p e s m args below meth c s₁ B hml hP _
    have hh0 : s₁.heap = s.heap := by rw [B.state]; rfl
    have ht : ∀ x ∈ c.exceptionTable.toList, False := by
      obtain ⟨meth9, c9, h1, h2, -, -, -, -, h7, -⟩ := Cond.code_spec B.named (atoms_spec (ws := ws) B.pre _ (by rw [hw]; exact List.mem_cons_self))
      cases Option.some.inj (h1.symm.trans B.method)
      cases Option.some.inj (h2.symm.trans (Stand.of_body B).code)
      intro x hx
      rw [Array.isEmpty_iff.mp h7] at hx
      cases hx
    obtain ⟨t, a1, o, b1, b2, b3⟩ := body p e s m args below meth c s₁ B hml ht hP s₁ hh0 (Stand.of_body B)
    exact ⟨t, o, a1, b1, b2, b3⟩
/-- the table of a body with handlers -/
theorem vx_table {p : Program} {x y : MethodName} {S : Spec} {cc bytes : ByteArray} {maxL maxL' : Nat} {ret ret' : Option FieldType} {e : Env} {s s₁ : State} {m : MethodId} {args : Array Value} {below : List Frame} {meth : Method} {c : Code} {hh : List (Nat × Nat × Nat × Nat)}
    (B : BodyLoose p l y S cc maxL ret e s m args below meth c s₁) (h : (Cond.codeWith y bytes maxL' ret' hh).before args s = true) : c.exceptionTable.toList = tableOf hh := by
  obtain ⟨m9, meth9, c9, hn9, h1, h2, -, -, h6, -⟩ := Cond.codeWith_spec h
  cases Option.some.inj (hn9.symm.trans B.named)
  cases Option.some.inj (h1.symm.trans B.method)
  cases Option.some.inj (h2.symm.trans (Stand.of_body B).code)
  rw [← h6, table_eq]
end Bodies
end VXA
/-! ===== END ===== -/
/-! ===== BEGIN a static call of a method with an exception table ===== -/
section VXS
variable {p : Program} {l : Launch} {e : Env} {R : Room} {s : State} {m : MethodId} {args : Array Value} {below : List Frame} {meth : Method} {c : Code} {T : State} {H : Heap} {locs : List Loc} {cells slots : Nat}
abbrev vx_CSW (R : Room) (s : State) (args : Array Value) (own : String) (index : Nat) (y : MethodName) (bytes : ByteArray) (maxL : Nat) (ret : Option FieldType) (hh : List (Nat × Nat × Nat × Nat)) (ws : List Cond) (rm : Room) (mc ms n : Nat) : Prop :=
  (rm.cells = mc ∧ rm.slots = ms ∧ rm.frames + 1 ≤ R.frames ∧ 8 + (maxL + 11) + rm.locals ≤ R.locals ∧ (∀ w ∈ ws, ∀ (a' : Array Value) (U : State), s.WarmedH U.vm → w.before a' U = true) ∧ Cond.codeWith y bytes maxL ret hh ∈ ws) ∧
  (Cond.codeWith y bytes maxL ret hh).before args s = true ∧ (Cond.initialized y.cls).before args s = true ∧ (y.cls ≠ "java/lang/invoke/MethodHandle" ∧ y.cls ≠ "java/lang/invoke/VarHandle") ∧
  (∀ sig, parseMethodDescriptor y.desc = some sig → n = sig.parameters.length) ∧ (Cond.methodLink own index y).before args s = true ∧ (Cond.static y).before args s = true
theorem vx_cwSW {own : String} {index maxL mc ms : Nat} {y : MethodName} {bytes : ByteArray} {ret : Option FieldType} {hh : List (Nat × Nat × Nat × Nat)} {Ts ws ws' : List Cond} {rm : Room} (n : Nat) (ht : ∀ w ∈ Ts, w.before args s = true) (hT : GoodIn Ts (va_wsS own index y ws)) (hw : ws = Cond.codeWith y bytes maxL ret hh :: ws') (hrc : rm.cells = mc) (hrs : rm.slots = ms)
    (hd : y.cls ≠ "java/lang/invoke/MethodHandle" ∧ y.cls ≠ "java/lang/invoke/VarHandle" ∧ (parseMethodDescriptor y.desc).map (fun d => d.parameters.length) = some n) (hR : rm.frames + 1 ≤ R.frames ∧ 8 + (maxL + 11) + rm.locals ≤ R.locals) :
    vx_CSW R s args own index y bytes maxL ret hh ws rm mc ms n := by
  have ok : ∀ w ∈ va_wsS own index y ws, w.before args s = true := fun w h => ht w (hT w h).1
  have hG : GoodIn Ts ws := fun w h => hT w (by unfold va_wsS; exact List.mem_append_right _ h)
  have hc : Cond.codeWith y bytes maxL ret hh ∈ ws := by rw [hw]; exact List.mem_cons_self
  refine ⟨⟨hrc, hrs, hR.1, hR.2, pay_in ht hG, hc⟩, ht _ (hG _ hc).1, ok _ (by simp [va_wsS]), ⟨hd.1, hd.2.1⟩, fun sig h => ?_, ok _ (by simp [va_wsS]), ok _ (by simp [va_wsS])⟩
  have h2 := hd.2.2
  rw [h] at h2
  exact (Option.some.inj h2).symm
theorem vx_callSW (X : Stand p l e R s m args below meth c T locs cells slots) (hexec : p.tables.exec = Jvm.exec) {own : String} {index : Nat} {y : MethodName} {bytes : ByteArray} {maxL : Nat} {ret : Option FieldType} {hh : List (Nat × Nat × Nat × Nat)}
    (hown : s.vm.findClass own = some m.cls) (hlink : (Cond.methodLink own index y).before args s = true) (hstat : (Cond.static y).before args s = true) (hinit : (Cond.initialized y.cls).before args s = true)
    (hcode : (Cond.codeWith y bytes maxL ret hh).before args s = true) (hy : y.cls ≠ "java/lang/invoke/MethodHandle" ∧ y.cls ≠ "java/lang/invoke/VarHandle")
    {W9 : Nat} {Pre : Pt → Array Value → Prop} {Post : Pt → Array Value → Option Value → Pt → Prop} (hK : Back l R p e below s args y 3 W9 Pre Post)
    {g : JFrame} (hg : g.method = m) (hsize : g.locals.size = c.maxLocals) {argsL rest : List Value} (hlen : ∀ sig, parseMethodDescriptor y.desc = some sig → argsL.length = sig.parameters.length)
    (hstack : g.stack = argsL.reverse ++ rest) (hW : 2 * g.monitorRoom + (rest.map fun v => v.category).sum ≤ W9) (hdg : decode c.code g.pc = .ok (.invokestatic index, 3))
    (hpre : ∀ vm₁, s.WarmedH vm₁ → Pre ⟨T.setVm vm₁, locs, cells, slots⟩ argsL.toArray) :
    ∃ (v : Option Value) (vm₁ : Vm) (B : Pt), s.WarmedH vm₁ ∧ Stand p l e R s m args below meth c B.U B.locs B.cells B.slots ∧ Post ⟨T.setVm vm₁, locs, cells, slots⟩ argsL.toArray v B ∧
      ∀ target, Steps p.tables e below (B.U.setTop { g with pc := g.pc + 3, stack := v.toList ++ rest }) target → Steps p.tables e below (T.setTop g) target := by
  obtain ⟨mk, methM, cM, hnamed, hmethM, -, -, -, -, -, -, hsigM⟩ := Cond.codeWith_spec hcode
  have hstatic : methM.isStatic = true := Cond.static_spec hnamed hmethM hstat
  obtain ⟨kP, hkP, -⟩ := className_of_methodNamed hnamed
  have hinitP : kP.init = .initialized := Cond.initialized_spec (findClass_of_methodNamed hnamed) hkP hinit
  obtain ⟨vm₁, X₁, hstep₁⟩ := X.invokestatic hexec hown hlink hnamed hmethM hstatic hkP hinitP hy (g := g) hg (argsL := argsL) (rest := rest) (hlen _ hsigM) hstack hdg
  obtain ⟨v, B, X', hpost, hsteps⟩ := hK m meth c ⟨T.setVm vm₁, locs, cells, slots⟩ { g with stack := rest } (.invokestatic index) mk argsL.toArray X₁ hg hsize hdg hW (X₁.named hnamed) (hpre vm₁ X₁.warmed)
  exact ⟨v, vm₁, B, X₁.warmed, X', hpost, fun target h => hstep₁ _ fun acts => by rw [doInvoke_state]; exact hsteps.trans h⟩
theorem vx_runSW {y : MethodName} {bytes cc : ByteArray} {maxL nL mc ms n index : Nat} {ret : Option FieldType} {hh : List (Nat × Nat × Nat × Nat)} {ws : List Cond} {rm : Room} {Pc : Array Value → State → Prop} {Qc : Array Value → State → Outcome → State → Prop} {free : Addr → Prop} {Ts : List Cond} {own : String} {As rest : List Value} {g : JFrame}
    (S : CallFix p m c cc nL s args Ts own) (hM : Met l y ws rm Pc Qc mc ms free) (cw : vx_CSW R s args own index y bytes maxL ret hh ws rm mc ms n) (hp : PreS s H Pc As)
    (hg : g.method = m) (hn : As.length = n) (hsize : g.locals.size = nL) (hstack : g.stack = As.reverse ++ rest) (hW : 2 * g.monitorRoom + (rest.map fun v => v.category).sum ≤ 8) (hdg : decode cc g.pc = .ok (.invokestatic index, 3)) (hf : cells + mc ≤ R.cells ∧ slots + ms ≤ R.slots) :
    va_Run p l e R s m args below meth c H locs cells slots mc ms g rest (Qc As.toArray) (free) := by
  obtain ⟨⟨hrc, hrs, hfr, hlo, hws, hcw⟩, hcode, hini, hy, hlen, hl, hstt⟩ := cw
  have hK : Back l R p e below s args y 3 8 (PreOf R mc ms Pc) (PostOf Qc mc ms free) := va_backW (hh := hh) (bytes := bytes) (maxL := maxL) (ret := ret) hM hp.1 hrc hrs hfr hlo hws hcw (fun a' U hW => word_at hW (Or.inl (by first | rfl | simp [Cond.onTables, Cond.keeps, Cond.steady])) hini)
  obtain ⟨hx, hb, hml, ho, -⟩ := S
  intro T hT X
  obtain ⟨v, vm₁, ⟨U', l2, c2, s2⟩, hW₁, X', ⟨g', mk, t, L, e1, e2, hq, h1, hL, h2, h3⟩, st⟩ := vx_callSW X hx (hh := hh) (bytes := bytes) (maxL := maxL) (ret := ret) ho hl hstt hini hcode hy hK hg (hsize.trans hml.symm) (argsL := As) (rest := rest) (fun sig h => hn.trans (hlen sig h)) hstack hW (by rw [hb]; exact hdg)
    (fun vm₁ hW₁ => ⟨hf.1, hf.2, hp.2 (T.setVm vm₁) hT hW₁⟩)
  dsimp only [Pt.U, Pt.locs, Pt.cells, Pt.slots] at X' e1 e2 h1 h2 h3 st
  subst h1; subst h2; subst h3
  exact ⟨v, (T.setVm vm₁).calling g' mk As.toArray, t, U', L, hT, X', hL, e1, e2, hq, st⟩
/-- not caught here, past rows that name other classes: it goes on to the caller -/
theorem vx_outP {p : Program} {l : Launch} {e : Env} {R : Room} {s : State} {m : MethodId} {args : Array Value} {below : List Frame} {meth : Method} {c : Code} {H : Heap} {locs : List Loc} {cells slots : Nat} {free : Addr → Prop} {ls : Array Slot} {rest : List Value} {Qc : Array Value → State → Outcome → State → Prop} {XC : String → State → State → Prop}
    {pc : Nat} {own E : String} {ce : Cell} {q : Addr} {mc ms : Nat} (hown : s.vm.findClass own = some m.cls) (hlocks : meth.locks = false)
    (hpass : ∀ z ∈ c.exceptionTable.toList, covers z pc = false ∨ (z.catchType ≠ 0 ∧ ∃ nm : String, (Cond.classLink own z.catchType nm).before args s = true ∧ va_Nc E nm s)) (hcell : H[q]? = some ce) (hv : ce.vm = .none) (hcl : s.vm.findClass E = some ce.cls)
    (hx : ∀ t : State, t.heap = H → s.vm.Alike t.vm → XC E s t) (hf : ∀ z ∈ locs, free z.base) (hc : cells ≤ mc) (hs : slots ≤ ms) :
    vx_W p l e R s m args below meth c H locs cells slots (vx_MQ below Qc XC args s mc ms free) (F0 m pc ls rest) q := by
  intro T hT X
  have hpl : e.platform.magicAccessors = ({} : Platform).magicAccessors := by rw [X.admits.platform]
  obtain ⟨vm', hW', X', st⟩ := X.outThrough hlocks q (g := F0 m pc ls rest) rfl rfl rfl (cell := ce) (by rw [hT]; exact hcell) (by rw [hv]; rfl)
    (by obtain ⟨k9, h9, -⟩ := Vm.findClass_spec hcl; exact ⟨k9, h9⟩) (fun z hz => by
      rcases hpass z hz with h | ⟨hz0, nm, hl1, hn1⟩
      · exact Or.inl h
      · obtain ⟨c6, hc6, hcl6⟩ := Cond.classLink_spec hown hl1 e.platform hpl
        obtain ⟨a8, b8, h1, h2, h3⟩ := hn1
        cases Option.some.inj (h1.symm.trans hcl)
        cases Option.some.inj (h2.symm.trans hc6)
        exact Or.inr ⟨hz0, _, hcl6, h3⟩)
  obtain ⟨g₀, hfr⟩ := X'.frames_eq
  have hcell9 : ((T.setVm vm').setFrames (.throwing q :: below)).heap[q]? = some ce := by
    show T.heap[q]? = some ce
    rw [hT]; exact hcell
  have hend : Ended ((T.setVm vm').setFrames (.throwing q :: below)) below (.threw q) := State.frames_setFrames _ (State.cur_lt_of_frames hfr)
  refine ⟨(T.setVm vm').setFrames (.throwing q :: below), ?_, .threw q, X'.here.running, hend, Or.inr ⟨q, rfl, E, ce, locs, hx _ hT (X'.ends _).1.alike, hcell9, hv, hcl, (X'.ends _).1, (X'.ends _).2.mono hc hs, hf⟩⟩
  rw [X.pushThrowing_eq]
  exact st
/-- a thing of a world lies in the heap -/
theorem vx_lt {D : va_G} {cl : List vw_C} {ws : va_W} {H1 : Heap} (h : va_P D cl ws H1) {k : Nat} {q : Nat × va_E} (hk : ws[k]? = some q) : q.1 < H1.size := (h k q hk).lt
end VXS
/-! ===== END ===== -/
/-! ===== BEGIN methods with a table of their own: called by a name, returning or throwing ===== -/
section VXH
/-! vx_backW, vx_callVX, vx_callSX, vx_callVW, vx_runVW, vx_runVX, vx_runSX, vx_ofWH follow the same proofs as their sisters above (Free/Laws.lean, Shelf42/LK1.lean); vx_outP calls Shelf42/NT130.lean (outThrough). -/
section
variable {l : Launch} {R : Room} {p : Program} {e : Env} {below : List Frame} {s : State} {sargs : Array Value} {y : MethodName} {len W9 : Nat}
theorem vx_backW {ws : List Cond} {rm : Room} {Pc : Array Value → State → Prop} {Qc : Array Value → State → Outcome → State → Prop} {XC : String → State → State → Prop} {mc ms : Nat} {free : Addr → Prop} {bytes : ByteArray} {maxL : Nat} {ret : Option FieldType} {hh : List (Nat × Nat × Nat × Nat)}
    (hM : vx_Met l y ws rm Pc Qc XC mc ms free) (hblind : FrameBlind Pc) (hrc : rm.cells = mc) (hrs : rm.slots = ms)
    (hframes : rm.frames + 1 ≤ R.frames) (hlocals : W9 + (maxL + 11) + rm.locals ≤ R.locals)
    (hws : ∀ w ∈ ws, ∀ a' U, s.WarmedH U.vm → w.before a' U = true) (hcode : Cond.codeWith y bytes maxL ret hh ∈ ws) (hinit : ∀ a' U, s.WarmedH U.vm → (Cond.initialized y.cls).before a' U = true) :
    vx_Back l R p e below s sargs y len W9 (PreOf R mc ms Pc) (PostOf Qc mc ms free) (vx_Post XC mc ms free) := by
  intro m meth c A g ig mk a X hg hsize hdg hW hn hp
  have h1 : (headSpec ws rm).pre.before a A.U = true := atoms_intro fun w hw => hws w hw _ _ X.warmed
  have h2 : (Cond.codeWith y bytes maxL ret hh).before a A.U = true := hws _ hcode _ _ X.warmed
  have h3 : (Cond.initialized y.cls).before a A.U = true := hinit _ _ X.warmed
  have h4 : A.cells + (headSpec ws rm).room.cells ≤ R.cells := by rw [show (headSpec ws rm).room.cells = mc from hrc]; exact hp.1
  have h5 : A.slots + (headSpec ws rm).room.slots ≤ R.slots := by rw [show (headSpec ws rm).room.slots = ms from hrs]; exact hp.2.1
  have hPc : Pc a (A.U.calling g mk a) := hblind _ _ _ _ hp.2.2
  obtain ⟨U, Ls, c0, s0⟩ := A
  dsimp only [Pt.U, Pt.locs, Pt.cells, Pt.slots] at h1 h2 h3 h4 h5 X hn hPc ⊢
  obtain ⟨m9, methY, cY, hn9, hmY, hcY, -, hlY, -⟩ := Cond.codeWith_spec h2
  cases Option.some.inj (hn9.symm.trans hn)
  obtain ⟨kY, hkY, -⟩ := className_of_methodNamed hn
  have hinitY : kY.init = .initialized := Cond.initialized_spec (findClass_of_methodNamed hn) hkY h3
  have h : At U g.method c below := by rw [hg]; exact X.here
  have hlocals9 : W9 + (maxL + 11) + (headSpec ws rm).room.locals ≤ R.locals := hlocals
  have happ : (headSpec ws rm).appliesLoose y e.platform (U.calling g mk a) = true :=
    Spec.appliesLoose_calling (g := g) h hdg hn hkY hinitY
      (X.room_calling (g := g) (R' := (headSpec ws rm).room) hsize hmY hcY hframes (by rw [hlY]; omega) h4 h5) h1
  obtain ⟨mid, hmid⟩ := h.above
  have hfr : (U.setTop g).frames = (.java g :: mid) ++ below := by rw [State.frames_setTop' g h.top, hmid]; rfl
  obtain ⟨o, s₂, hsteps, -, hend, hq⟩ := Steps.callFree hM p X.admits X.cas X.clock (acts := []) hfr happ hPc trivial
  have hq' : vx_Q Qc XC mc ms free a (U.calling g mk a) o s₂ := hq
  rw [State.frames_setTop' g h.top] at hend
  obtain ⟨g₀, hg0⟩ := Option.isSome_iff_exists.mp h.top
  obtain ⟨r, hr⟩ := State.topJava?_eq_some.mp hg0
  have hr' : (({ U with heap := s₂.heap, slotsUsed := s₂.slotsUsed } : State).setVm s₂.vm).frames = .java g₀ :: r := hr
  rcases hq' with ⟨hqc, L, hfe, hL⟩ | ⟨q, rfl, E, ce, L, hx, hce, hcv, hcl, hW₂, hsm, hL⟩
  · obtain ⟨⟨v, rfl⟩, hW₂, e2, q2, q3, q4, q5, q6⟩ := id hfe
    have e3 : s₂ = ({ (U.calling g mk a).setFrames s₂.frames with heap := s₂.heap, slotsUsed := s₂.slotsUsed } : State).setVm s₂.vm := by
      have : s₂ = ({ s₂ with vm := (U.calling g mk a).vm } : State).setVm s₂.vm := rfl
      rw [e2] at this
      exact this
    obtain ⟨c₂, i₂, len₂, hc₂, hd₂, hf₂⟩ := hend
    have hW' : U.WarmedH s₂.vm := hW₂
    have hcc : c₂ = c := by
      have h1 : s₂.code? g.method = U.code? g.method := by
        rw [State.code?_eq, State.code?_eq, hW'.alike.method?]
      exact Option.some.inj (hc₂.symm.trans (h1.trans h.code))
    subst hcc
    have hlen : len₂ = len := by rw [hdg] at hd₂; cases hd₂; rfl
    subst hlen
    have hs₂ : s₂ = (({ U with heap := s₂.heap, slotsUsed := s₂.slotsUsed } : State).setVm s₂.vm).setTop { g with pc := g.pc + len₂, stack := v.toList ++ g.stack } := by
      refine e3.trans ?_
      rw [hf₂, State.calling_eq h.top, State.setFrames_setFrames, State.setTop_of_frames _ hr', hr]
      rfl
    have hsame : U.sameButNew ({ U with heap := s₂.heap, slotsUsed := s₂.slotsUsed } : State) L mc ms := by
      refine ⟨?_, q2, q3, q4, q5, q6⟩
      obtain ⟨t, ht, -⟩ := State.frames_cons hr
      show ({ U with heap := s₂.heap, slotsUsed := s₂.slotsUsed } : State) = { U.setFrames U.frames with heap := s₂.heap, slotsUsed := s₂.slotsUsed }
      rw [State.setFrames_self ht]
    subst hg
    refine Or.inl ⟨v, ⟨(({ U with heap := s₂.heap, slotsUsed := s₂.slotsUsed } : State).setVm s₂.vm), Ls ++ L, c0 + mc, s0 + ms⟩,
      ⟨X.admits, X.cas, X.clock, X.frames, X.room, X.hears, X.method, X.code, (X.here.setHeapUsed s₂.heap s₂.slotsUsed).setVm hW'.alike, X.tail, State.WarmedH.trans X.warmed hW', X.limits, X.bytes, X.same.trans (hsame.setVm s.vm)⟩,
      ⟨g, mk, s₂, L, rfl, rfl, hqc, rfl, hL, rfl, rfl⟩, ?_⟩
    show Steps p.tables e below _ ((({ U with heap := s₂.heap, slotsUsed := s₂.slotsUsed } : State).setVm s₂.vm).setTop { g with pc := g.pc + len₂, stack := v.toList ++ g.stack })
    rw [← hs₂]
    exact hsteps
  · obtain ⟨e2, q2, q3, q4, q5, q6⟩ := id hsm
    have e3 : s₂ = ({ (U.calling g mk a).setFrames s₂.frames with heap := s₂.heap, slotsUsed := s₂.slotsUsed } : State).setVm s₂.vm := by
      have : s₂ = ({ s₂ with vm := (U.calling g mk a).vm } : State).setVm s₂.vm := rfl
      rw [e2] at this
      exact this
    have hf₂ : s₂.frames = .throwing q :: .java g :: U.frames.tail := hend
    have hW' : U.WarmedH s₂.vm := hW₂
    have hs₂ : s₂ = ((({ U with heap := s₂.heap, slotsUsed := s₂.slotsUsed } : State).setVm s₂.vm).setTop g).pushFrame (.throwing q) := by
      refine e3.trans ?_
      rw [hf₂, State.calling_eq h.top, State.setFrames_setFrames, State.pushFrame, State.frames_setTop _ hr', State.setTop_of_frames _ hr', State.setFrames_setFrames, hr]
      rfl
    have hsame : U.sameButNew ({ U with heap := s₂.heap, slotsUsed := s₂.slotsUsed } : State) L mc ms := by
      refine ⟨?_, q2, q3, q4, q5, q6⟩
      obtain ⟨t, ht, -⟩ := State.frames_cons hr
      show ({ U with heap := s₂.heap, slotsUsed := s₂.slotsUsed } : State) = { U.setFrames U.frames with heap := s₂.heap, slotsUsed := s₂.slotsUsed }
      rw [State.setFrames_self ht]
    subst hg
    refine Or.inr ⟨q, ⟨(({ U with heap := s₂.heap, slotsUsed := s₂.slotsUsed } : State).setVm s₂.vm), Ls ++ L, c0 + mc, s0 + ms⟩,
      ⟨X.admits, X.cas, X.clock, X.frames, X.room, X.hears, X.method, X.code, (X.here.setHeapUsed s₂.heap s₂.slotsUsed).setVm hW'.alike, X.tail, State.WarmedH.trans X.warmed hW', X.limits, X.bytes, X.same.trans (hsame.setVm s.vm)⟩,
      ⟨g, mk, s₂, L, E, ce, rfl, rfl, hx, hce, hcv, hcl, rfl, hL, rfl, rfl⟩, ?_⟩
    show Steps p.tables e below _ (((({ U with heap := s₂.heap, slotsUsed := s₂.slotsUsed } : State).setVm s₂.vm).setTop g).pushFrame (.throwing q))
    rw [← hs₂]
    exact hsteps
end
variable {p : Program} {l : Launch} {e : Env} {R : Room} {s : State} {m : MethodId} {args : Array Value} {below : List Frame} {meth : Method} {c : Code} {T : State} {H : Heap} {locs : List Loc} {cells slots : Nat}
theorem vx_callVX (X : Stand p l e R s m args below meth c T locs cells slots) (hexec : p.tables.exec = Jvm.exec) {own C : String} {index : Nat} {y : MethodName} {bytes : ByteArray} {maxL : Nat} {ret : Option FieldType} {hh : List (Nat × Nat × Nat × Nat)}
    (hown : s.vm.findClass own = some m.cls) (hlink : (Cond.methodLink own index y).before args s = true) (hinst : (Cond.instanceMethod y).before args s = true) (hsel : (Cond.selects C y y).before args s = true)
    (hcode : (Cond.codeWith y bytes maxL ret hh).before args s = true) (hy : y.cls ≠ "java/lang/invoke/MethodHandle" ∧ y.cls ≠ "java/lang/invoke/VarHandle")
    {W9 : Nat} {Pre : Pt → Array Value → Prop} {Post : Pt → Array Value → Option Value → Pt → Prop} {PostX : Pt → Array Value → Addr → Pt → Prop} (hK : vx_Back l R p e below s args y 3 W9 Pre Post PostX)
    {b : Addr} {cellB : Cell} (hcell : T.heap[b]? = some cellB) (hobj : cellB.vm.isStatics = false) (hcls : s.vm.findClass C = some cellB.cls)
    {g : JFrame} (hg : g.method = m) (hsize : g.locals.size = c.maxLocals) {argsL rest : List Value} (hlen : ∀ sig, parseMethodDescriptor y.desc = some sig → argsL.length = sig.parameters.length)
    (hstack : g.stack = argsL.reverse ++ .ref b :: rest) (hW : 2 * g.monitorRoom + (rest.map fun v => v.category).sum ≤ W9) (hdg : decode c.code g.pc = .ok (.invokevirtual index, 3))
    (hpre : ∀ vm₁, s.WarmedH vm₁ → Pre ⟨T.setVm vm₁, locs, cells, slots⟩ (Value.ref b :: argsL).toArray) :
    (∃ (v : Option Value) (vm₁ : Vm) (B : Pt), s.WarmedH vm₁ ∧ Stand p l e R s m args below meth c B.U B.locs B.cells B.slots ∧ Post ⟨T.setVm vm₁, locs, cells, slots⟩ (Value.ref b :: argsL).toArray v B ∧
      ∀ target, Steps p.tables e below (B.U.setTop { g with pc := g.pc + 3, stack := v.toList ++ rest }) target → Steps p.tables e below (T.setTop g) target) ∨
    (∃ (q : Addr) (vm₁ : Vm) (B : Pt), s.WarmedH vm₁ ∧ Stand p l e R s m args below meth c B.U B.locs B.cells B.slots ∧ PostX ⟨T.setVm vm₁, locs, cells, slots⟩ (Value.ref b :: argsL).toArray q B ∧
      Steps p.tables e below (T.setTop g) ((B.U.setTop { g with stack := rest }).pushFrame (.throwing q))) := by
  obtain ⟨mk, methM, hnamed, hmethM, hstM, habM⟩ := Cond.instanceMethod_spec hinst
  obtain ⟨m8, methM', cM, hn8, hmethM', -, -, -, -, -, -, hsigM⟩ := Cond.codeWith_spec hcode
  cases Option.some.inj (hn8.symm.trans hnamed)
  cases hmethM.symm.trans hmethM'
  obtain ⟨c2, r2, m2, q1, q2, q3, q4, kP, hkP, hkPi⟩ := Cond.selects_spec hsel
  cases hcls.symm.trans q1
  cases (State.methodFound?_of_named hnamed hy).symm.trans q2
  cases hnamed.symm.trans q3
  have hselP : selectMethod e.platform s.vm cellB.cls mk = .method mk := by rw [Launch.admits_selectMethod X.admits]; exact q4
  obtain ⟨vm₁, X₁, hstep₁⟩ := X.invokevirtual hexec hown hlink hnamed hmethM hstM hkP hkPi hy (a := b) (cell := cellB) hcell
    (fun z h => by rw [h] at hobj; cases hobj) hselP hmethM habM hkP hkPi (g := g) hg (argsL := argsL) (rest := rest) (hlen _ hsigM) hstack hdg
  rcases hK m meth c ⟨T.setVm vm₁, locs, cells, slots⟩ { g with stack := rest } (.invokevirtual index) mk (Value.ref b :: argsL).toArray X₁ hg hsize hdg hW (X₁.named hnamed) (hpre vm₁ X₁.warmed) with ⟨v, B, X', hpost, hsteps⟩ | ⟨q, B, X', hpost, hsteps⟩
  · exact Or.inl ⟨v, vm₁, B, X₁.warmed, X', hpost, fun target h => hstep₁ _ fun acts => by rw [doInvoke_state]; exact hsteps.trans h⟩
  · exact Or.inr ⟨q, vm₁, B, X₁.warmed, X', hpost, hstep₁ _ fun acts => by rw [doInvoke_state]; exact hsteps⟩
theorem vx_callSX (X : Stand p l e R s m args below meth c T locs cells slots) (hexec : p.tables.exec = Jvm.exec) {own : String} {index : Nat} {y : MethodName} {bytes : ByteArray} {maxL : Nat} {ret : Option FieldType} {hh : List (Nat × Nat × Nat × Nat)}
    (hown : s.vm.findClass own = some m.cls) (hlink : (Cond.methodLink own index y).before args s = true) (hstat : (Cond.static y).before args s = true) (hinit : (Cond.initialized y.cls).before args s = true)
    (hcode : (Cond.codeWith y bytes maxL ret hh).before args s = true) (hy : y.cls ≠ "java/lang/invoke/MethodHandle" ∧ y.cls ≠ "java/lang/invoke/VarHandle")
    {W9 : Nat} {Pre : Pt → Array Value → Prop} {Post : Pt → Array Value → Option Value → Pt → Prop} {PostX : Pt → Array Value → Addr → Pt → Prop} (hK : vx_Back l R p e below s args y 3 W9 Pre Post PostX)
    {g : JFrame} (hg : g.method = m) (hsize : g.locals.size = c.maxLocals) {argsL rest : List Value} (hlen : ∀ sig, parseMethodDescriptor y.desc = some sig → argsL.length = sig.parameters.length)
    (hstack : g.stack = argsL.reverse ++ rest) (hW : 2 * g.monitorRoom + (rest.map fun v => v.category).sum ≤ W9) (hdg : decode c.code g.pc = .ok (.invokestatic index, 3))
    (hpre : ∀ vm₁, s.WarmedH vm₁ → Pre ⟨T.setVm vm₁, locs, cells, slots⟩ argsL.toArray) :
    (∃ (v : Option Value) (vm₁ : Vm) (B : Pt), s.WarmedH vm₁ ∧ Stand p l e R s m args below meth c B.U B.locs B.cells B.slots ∧ Post ⟨T.setVm vm₁, locs, cells, slots⟩ argsL.toArray v B ∧
      ∀ target, Steps p.tables e below (B.U.setTop { g with pc := g.pc + 3, stack := v.toList ++ rest }) target → Steps p.tables e below (T.setTop g) target) ∨
    (∃ (q : Addr) (vm₁ : Vm) (B : Pt), s.WarmedH vm₁ ∧ Stand p l e R s m args below meth c B.U B.locs B.cells B.slots ∧ PostX ⟨T.setVm vm₁, locs, cells, slots⟩ argsL.toArray q B ∧
      Steps p.tables e below (T.setTop g) ((B.U.setTop { g with stack := rest }).pushFrame (.throwing q))) := by
  obtain ⟨mk, methM, cM, hnamed, hmethM, -, -, -, -, -, -, hsigM⟩ := Cond.codeWith_spec hcode
  have hstatic : methM.isStatic = true := Cond.static_spec hnamed hmethM hstat
  obtain ⟨kP, hkP, -⟩ := className_of_methodNamed hnamed
  have hinitP : kP.init = .initialized := Cond.initialized_spec (findClass_of_methodNamed hnamed) hkP hinit
  obtain ⟨vm₁, X₁, hstep₁⟩ := X.invokestatic hexec hown hlink hnamed hmethM hstatic hkP hinitP hy (g := g) hg (argsL := argsL) (rest := rest) (hlen _ hsigM) hstack hdg
  rcases hK m meth c ⟨T.setVm vm₁, locs, cells, slots⟩ { g with stack := rest } (.invokestatic index) mk argsL.toArray X₁ hg hsize hdg hW (X₁.named hnamed) (hpre vm₁ X₁.warmed) with ⟨v, B, X', hpost, hsteps⟩ | ⟨q, B, X', hpost, hsteps⟩
  · exact Or.inl ⟨v, vm₁, B, X₁.warmed, X', hpost, fun target h => hstep₁ _ fun acts => by rw [doInvoke_state]; exact hsteps.trans h⟩
  · exact Or.inr ⟨q, vm₁, B, X₁.warmed, X', hpost, hstep₁ _ fun acts => by rw [doInvoke_state]; exact hsteps⟩
theorem vx_callVW (X : Stand p l e R s m args below meth c T locs cells slots) (hexec : p.tables.exec = Jvm.exec) {own C : String} {index : Nat} {y : MethodName} {bytes : ByteArray} {maxL : Nat} {ret : Option FieldType} {hh : List (Nat × Nat × Nat × Nat)}
    (hown : s.vm.findClass own = some m.cls) (hlink : (Cond.methodLink own index y).before args s = true) (hinst : (Cond.instanceMethod y).before args s = true) (hsel : (Cond.selects C y y).before args s = true)
    (hcode : (Cond.codeWith y bytes maxL ret hh).before args s = true) (hy : y.cls ≠ "java/lang/invoke/MethodHandle" ∧ y.cls ≠ "java/lang/invoke/VarHandle")
    {W9 : Nat} {Pre : Pt → Array Value → Prop} {Post : Pt → Array Value → Option Value → Pt → Prop} (hK : Back l R p e below s args y 3 W9 Pre Post)
    {b : Addr} {cellB : Cell} (hcell : T.heap[b]? = some cellB) (hobj : cellB.vm.isStatics = false) (hcls : s.vm.findClass C = some cellB.cls)
    {g : JFrame} (hg : g.method = m) (hsize : g.locals.size = c.maxLocals) {argsL rest : List Value} (hlen : ∀ sig, parseMethodDescriptor y.desc = some sig → argsL.length = sig.parameters.length)
    (hstack : g.stack = argsL.reverse ++ .ref b :: rest) (hW : 2 * g.monitorRoom + (rest.map fun v => v.category).sum ≤ W9) (hdg : decode c.code g.pc = .ok (.invokevirtual index, 3))
    (hpre : ∀ vm₁, s.WarmedH vm₁ → Pre ⟨T.setVm vm₁, locs, cells, slots⟩ (Value.ref b :: argsL).toArray) :
    ∃ (v : Option Value) (vm₁ : Vm) (B : Pt), s.WarmedH vm₁ ∧ Stand p l e R s m args below meth c B.U B.locs B.cells B.slots ∧ Post ⟨T.setVm vm₁, locs, cells, slots⟩ (Value.ref b :: argsL).toArray v B ∧
      ∀ target, Steps p.tables e below (B.U.setTop { g with pc := g.pc + 3, stack := v.toList ++ rest }) target → Steps p.tables e below (T.setTop g) target := by
  obtain ⟨mk, methM, hnamed, hmethM, hstM, habM⟩ := Cond.instanceMethod_spec hinst
  obtain ⟨m8, methM', cM, hn8, hmethM', -, -, -, -, -, -, hsigM⟩ := Cond.codeWith_spec hcode
  cases Option.some.inj (hn8.symm.trans hnamed)
  cases hmethM.symm.trans hmethM'
  obtain ⟨c2, r2, m2, q1, q2, q3, q4, kP, hkP, hkPi⟩ := Cond.selects_spec hsel
  cases hcls.symm.trans q1
  cases (State.methodFound?_of_named hnamed hy).symm.trans q2
  cases hnamed.symm.trans q3
  have hselP : selectMethod e.platform s.vm cellB.cls mk = .method mk := by rw [Launch.admits_selectMethod X.admits]; exact q4
  obtain ⟨vm₁, X₁, hstep₁⟩ := X.invokevirtual hexec hown hlink hnamed hmethM hstM hkP hkPi hy (a := b) (cell := cellB) hcell
    (fun z h => by rw [h] at hobj; cases hobj) hselP hmethM habM hkP hkPi (g := g) hg (argsL := argsL) (rest := rest) (hlen _ hsigM) hstack hdg
  obtain ⟨v, B, X', hpost, hsteps⟩ := hK m meth c ⟨T.setVm vm₁, locs, cells, slots⟩ { g with stack := rest } (.invokevirtual index) mk (Value.ref b :: argsL).toArray X₁ hg hsize hdg hW (X₁.named hnamed) (hpre vm₁ X₁.warmed)
  exact ⟨v, vm₁, B, X₁.warmed, X', hpost, fun target h => hstep₁ _ fun acts => by rw [doInvoke_state]; exact hsteps.trans h⟩
abbrev vx_CVW (R : Room) (s : State) (args : Array Value) (own C : String) (index : Nat) (y : MethodName) (bytes : ByteArray) (maxL : Nat) (ret : Option FieldType) (hh : List (Nat × Nat × Nat × Nat)) (ws : List Cond) (rm : Room) (mc ms n : Nat) : Prop :=
  (rm.cells = mc ∧ rm.slots = ms ∧ rm.frames + 1 ≤ R.frames ∧ 8 + (maxL + 11) + rm.locals ≤ R.locals ∧ (∀ w ∈ ws, ∀ (a' : Array Value) (U : State), s.WarmedH U.vm → w.before a' U = true) ∧ Cond.codeWith y bytes maxL ret hh ∈ ws) ∧
  (Cond.codeWith y bytes maxL ret hh).before args s = true ∧ (Cond.initialized y.cls).before args s = true ∧ (y.cls ≠ "java/lang/invoke/MethodHandle" ∧ y.cls ≠ "java/lang/invoke/VarHandle") ∧
  (∀ sig, parseMethodDescriptor y.desc = some sig → n = sig.parameters.length) ∧ (Cond.methodLink own index y).before args s = true ∧ (Cond.instanceMethod y).before args s = true ∧ (Cond.selects C y y).before args s = true
theorem vx_cwVW {own C : String} {index maxL mc ms : Nat} {y : MethodName} {bytes : ByteArray} {ret : Option FieldType} {hh : List (Nat × Nat × Nat × Nat)} {Ts ws ws' : List Cond} {rm : Room} (n : Nat) (ht : ∀ w ∈ Ts, w.before args s = true) (hT : GoodIn Ts (wsV own index C y ws)) (hw : ws = Cond.codeWith y bytes maxL ret hh :: ws') (hrc : rm.cells = mc) (hrs : rm.slots = ms)
    (hd : y.cls = C ∧ y.cls ≠ "java/lang/invoke/MethodHandle" ∧ y.cls ≠ "java/lang/invoke/VarHandle" ∧ (parseMethodDescriptor y.desc).map (fun d => d.parameters.length) = some n) (hR : rm.frames + 1 ≤ R.frames ∧ 8 + (maxL + 11) + rm.locals ≤ R.locals) :
    vx_CVW R s args own C index y bytes maxL ret hh ws rm mc ms n := by
  obtain ⟨hC, hd⟩ := hd
  subst hC
  have ok : ∀ w ∈ wsV own index y.cls y ws, w.before args s = true := fun w h => ht w (hT w h).1
  have hG : GoodIn Ts ws := fun w h => hT w (by unfold wsV; exact List.mem_append_right _ h)
  have hc : Cond.codeWith y bytes maxL ret hh ∈ ws := by rw [hw]; exact List.mem_cons_self
  refine ⟨⟨hrc, hrs, hR.1, hR.2, pay_in ht hG, hc⟩, ht _ (hG _ hc).1, ok _ (by simp [wsV]), ⟨hd.1, hd.2.1⟩, fun sig h => ?_, ok _ (by simp [wsV]), ok _ (by simp [wsV]), ok _ (by simp [wsV])⟩
  have h2 := hd.2.2
  rw [h] at h2
  exact (Option.some.inj h2).symm
theorem vx_runVW {y : MethodName} {bytes cc : ByteArray} {maxL nL mc ms n index : Nat} {ret : Option FieldType} {hh : List (Nat × Nat × Nat × Nat)} {ws : List Cond} {rm : Room} {Pc : Array Value → State → Prop} {Qc : Array Value → State → Outcome → State → Prop} {free : Addr → Prop} {Ts : List Cond} {own C : String} {b : Addr} {As rest : List Value} {g : JFrame}
    (S : CallFix p m c cc nL s args Ts own) (hM : Met l y ws rm Pc Qc mc ms free) (cw : vx_CVW R s args own C index y bytes maxL ret hh ws rm mc ms n) (hp : PreV s H C b Pc As)
    (hg : g.method = m) (hn : As.length = n) (hsize : g.locals.size = nL) (hstack : g.stack = As.reverse ++ .ref b :: rest) (hW : 2 * g.monitorRoom + (rest.map fun v => v.category).sum ≤ 8) (hdg : decode cc g.pc = .ok (.invokevirtual index, 3)) (hf : cells + mc ≤ R.cells ∧ slots + ms ≤ R.slots) :
    va_Run p l e R s m args below meth c H locs cells slots mc ms g rest (Qc (Value.ref b :: As).toArray) free := by
  obtain ⟨⟨hrc, hrs, hfr, hlo, hws, hcw⟩, hcode, hini, hy, hlen, hl, hin, hse⟩ := cw
  have hK : Back l R p e below s args y 3 8 (PreOf R mc ms Pc) (PostOf Qc mc ms free) := va_backW (hh := hh) (bytes := bytes) (maxL := maxL) (ret := ret) hM hp.1 hrc hrs hfr hlo hws hcw (fun a' U hW => word_at hW (Or.inl (by first | rfl | simp [Cond.onTables, Cond.keeps, Cond.steady])) hini)
  obtain ⟨hx, hb, hml, ho, -⟩ := S
  obtain ⟨-, ⟨cellB, hcB, hoB, hclB⟩, hPc⟩ := hp
  intro T hT X
  obtain ⟨v, vm₁, ⟨U', l2, c2, s2⟩, hW₁, X', ⟨g', mk, t, L, e1, e2, hq, h1, hL, h2, h3⟩, st⟩ := vx_callVW X hx (C := C) (hh := hh) (bytes := bytes) (maxL := maxL) (ret := ret) ho hl hin hse hcode hy hK (by rw [hT]; exact hcB) hoB hclB hg (hsize.trans hml.symm) (argsL := As) (rest := rest) (fun sig h => hn.trans (hlen sig h)) hstack hW (by rw [hb]; exact hdg)
    (fun vm₁ hW₁ => ⟨hf.1, hf.2, hPc (T.setVm vm₁) hT hW₁⟩)
  dsimp only [Pt.U, Pt.locs, Pt.cells, Pt.slots] at X' e1 e2 h1 h2 h3 st
  subst h1; subst h2; subst h3
  exact ⟨v, (T.setVm vm₁).calling g' mk (Value.ref b :: As).toArray, t, U', L, hT, X', hL, e1, e2, hq, st⟩
section
variable {y : MethodName} {bytes cc : ByteArray} {maxL nL mc ms n index : Nat} {ret : Option FieldType} {ws : List Cond} {rm : Room} {Pc : Array Value → State → Prop} {Qc : Array Value → State → Outcome → State → Prop} {XC : String → State → State → Prop} {free : Addr → Prop} {Ts : List Cond} {own C : String} {b : Addr} {As rest : List Value} {g : JFrame}
theorem vx_runVX {hh : List (Nat × Nat × Nat × Nat)} (S : CallFix p m c cc nL s args Ts own) (hM : vx_Met l y ws rm Pc Qc XC mc ms free) (cw : vx_CVW R s args own C index y bytes maxL ret hh ws rm mc ms n) (hp : PreV s H C b Pc As)
    (hg : g.method = m) (hn : As.length = n) (hsize : g.locals.size = nL) (hstack : g.stack = As.reverse ++ .ref b :: rest) (hW : 2 * g.monitorRoom + (rest.map fun v => v.category).sum ≤ 8) (hdg : decode cc g.pc = .ok (.invokevirtual index, 3)) (hf : cells + mc ≤ R.cells ∧ slots + ms ≤ R.slots) :
    vx_Run p l e R s m args below meth c H locs cells slots mc ms g rest (Qc (Value.ref b :: As).toArray) XC free := by
  obtain ⟨⟨hrc, hrs, hfr, hlo, hws, hcw⟩, hcode, hini, hy, hlen, hl, hin, hse⟩ := cw
  have hK : vx_Back l R p e below s args y 3 8 (PreOf R mc ms Pc) (PostOf Qc mc ms free) (vx_Post XC mc ms free) := vx_backW (hh := hh) (bytes := bytes) (maxL := maxL) (ret := ret) hM hp.1 hrc hrs hfr hlo hws hcw (fun a' U hW => word_at hW (Or.inl (by first | rfl | simp [Cond.onTables, Cond.keeps, Cond.steady])) hini)
  obtain ⟨hx, hb, hml, ho, -⟩ := S
  obtain ⟨-, ⟨cellB, hcB, hoB, hclB⟩, hPc⟩ := hp
  intro T hT X
  rcases vx_callVX X hx (C := C) (hh := hh) (bytes := bytes) (maxL := maxL) (ret := ret) ho hl hin hse hcode hy hK (by rw [hT]; exact hcB) hoB hclB hg (hsize.trans hml.symm) (argsL := As) (rest := rest) (fun sig h => hn.trans (hlen sig h)) hstack hW (by rw [hb]; exact hdg)
    (fun vm₁ hW₁ => ⟨hf.1, hf.2, hPc (T.setVm vm₁) hT hW₁⟩) with ⟨v, vm₁, ⟨U', l2, c2, s2⟩, hW₁, X', ⟨g', mk, t, L, e1, e2, hq, h1, hL, h2, h3⟩, st⟩ | ⟨q, vm₁, ⟨U', l2, c2, s2⟩, hW₁, X', ⟨g', mk, t, L, E, ce, e1, e2, hq, hce, hcv, hcl, h1, hL, h2, h3⟩, st⟩
  · dsimp only [Pt.U, Pt.locs, Pt.cells, Pt.slots] at X' e1 e2 h1 h2 h3 st
    subst h1; subst h2; subst h3
    exact Or.inl ⟨v, (T.setVm vm₁).calling g' mk (Value.ref b :: As).toArray, t, U', L, hT, X', hL, e1, e2, hq, st⟩
  · dsimp only [Pt.U, Pt.locs, Pt.cells, Pt.slots] at X' e1 e2 h1 h2 h3 st hcl
    subst h1; subst h2; subst h3
    exact Or.inr ⟨q, (T.setVm vm₁).calling g' mk (Value.ref b :: As).toArray, t, U', L, E, ce, hT, X', hL, e1, e2, hq, hce, hcv, vx_cls hW₁ hcl, st⟩
theorem vx_runSX {hh : List (Nat × Nat × Nat × Nat)} (S : CallFix p m c cc nL s args Ts own) (hM : vx_Met l y ws rm Pc Qc XC mc ms free) (cw : vx_CSW R s args own index y bytes maxL ret hh ws rm mc ms n) (hp : PreS s H Pc As)
    (hg : g.method = m) (hn : As.length = n) (hsize : g.locals.size = nL) (hstack : g.stack = As.reverse ++ rest) (hW : 2 * g.monitorRoom + (rest.map fun v => v.category).sum ≤ 8) (hdg : decode cc g.pc = .ok (.invokestatic index, 3)) (hf : cells + mc ≤ R.cells ∧ slots + ms ≤ R.slots) :
    vx_Run p l e R s m args below meth c H locs cells slots mc ms g rest (Qc As.toArray) XC free := by
  obtain ⟨⟨hrc, hrs, hfr, hlo, hws, hcw⟩, hcode, hini, hy, hlen, hl, hstt⟩ := cw
  have hK : vx_Back l R p e below s args y 3 8 (PreOf R mc ms Pc) (PostOf Qc mc ms free) (vx_Post XC mc ms free) := vx_backW (hh := hh) (bytes := bytes) (maxL := maxL) (ret := ret) hM hp.1 hrc hrs hfr hlo hws hcw (fun a' U hW => word_at hW (Or.inl (by first | rfl | simp [Cond.onTables, Cond.keeps, Cond.steady])) hini)
  obtain ⟨hx, hb, hml, ho, -⟩ := S
  intro T hT X
  rcases vx_callSX X hx (hh := hh) (bytes := bytes) (maxL := maxL) (ret := ret) ho hl hstt hini hcode hy hK hg (hsize.trans hml.symm) (argsL := As) (rest := rest) (fun sig h => hn.trans (hlen sig h)) hstack hW (by rw [hb]; exact hdg)
    (fun vm₁ hW₁ => ⟨hf.1, hf.2, hp.2 (T.setVm vm₁) hT hW₁⟩) with ⟨v, vm₁, ⟨U', l2, c2, s2⟩, hW₁, X', ⟨g', mk, t, L, e1, e2, hq, h1, hL, h2, h3⟩, st⟩ | ⟨q, vm₁, ⟨U', l2, c2, s2⟩, hW₁, X', ⟨g', mk, t, L, E, ce, e1, e2, hq, hce, hcv, hcl, h1, hL, h2, h3⟩, st⟩
  · dsimp only [Pt.U, Pt.locs, Pt.cells, Pt.slots] at X' e1 e2 h1 h2 h3 st
    subst h1; subst h2; subst h3
    exact Or.inl ⟨v, (T.setVm vm₁).calling g' mk As.toArray, t, U', L, hT, X', hL, e1, e2, hq, st⟩
  · dsimp only [Pt.U, Pt.locs, Pt.cells, Pt.slots] at X' e1 e2 h1 h2 h3 st hcl
    subst h1; subst h2; subst h3
    exact Or.inr ⟨q, (T.setVm vm₁).calling g' mk As.toArray, t, U', L, E, ce, hT, X', hL, e1, e2, hq, hce, hcv, vx_cls hW₁ hcl, st⟩
end
end VXH
theorem vx_ofWH {l : Launch} {y : MethodName} {ws ws' : List Cond} {rm : Room} {Pc : Array Value → State → Prop} {Qc : Array Value → State → Outcome → State → Prop} {XC : String → State → State → Prop} {mc ms : Nat} {free : Addr → Prop} {cc : ByteArray} {maxL : Nat} {ret : Option FieldType} {hh : List (Nat × Nat × Nat × Nat)}
    (hy : plainName y.cls = true) (hw : ws = Cond.codeWith y cc maxL ret hh :: ws')
    (body : ∀ p e s m args below meth c s₁, BodyLoose p l y (headSpec ws rm) cc maxL ret e s m args below meth c s₁ → c.maxLocals = maxL → Pc args s →
      W p l e (headSpec ws rm).room s m args below meth c s.heap [] 0 0 (vx_MQ below Qc XC args s mc ms free) (entryFrame m args maxL)) : vx_Met l y ws rm Pc Qc XC mc ms free := by
  refine MetFree.of_bodyS (code := cc) (maxLocals := maxL) (ret := ret) hy ?_ ?_
  · intro args s m h hn
    obtain ⟨m9, meth, c, hn9, h1, h2, h3, h4, -, h5, h6, -⟩ := Cond.codeWith_spec (atoms_spec (ws := ws) h _ (by rw [hw]; exact List.mem_cons_self))
    cases hn.symm.trans hn9
    exact ⟨meth, c, h1, h2, h3, h4, h5, h6⟩
  · intro p e s m args below meth c s₁ B hml hP _
    have hh0 : s₁.heap = s.heap := by rw [B.state]; rfl
    obtain ⟨t, a1, o, b1, b2, b3⟩ := body p e s m args below meth c s₁ B hml hP s₁ hh0 (Stand.of_body B)
    exact ⟨t, o, a1, b1, b2, b3⟩
/-! ===== END ===== -/
end
section
/-! ===== BEGIN printed: names, fields, word lists, decode rows ===== -/
def RX0 : String := "Usewise$Lease"
def TX0 : u_T := fun k => match k with
  | 0 => ("Usewise$Lease", "rate", "I", true)
  | 1 => ("Usewise$Lease", "life", "I", true)
  | 2 => ("Usewise$Lease", "payments", "[I", true)
  | 3 => ("Usewise$Lease", "debts", "[I", true)
  | 4 => ("Usewise$Lease", "term", "I", false)
  | 5 => ("Usewise$Lease", "past", "I", false)
  | 6 => ("Usewise$Lease", "right", "J", false)
  | 7 => ("Usewise$Lease", "interest", "J", false)
  | 8 => ("Usewise$Lease", "paid", "J", false)
  | 9 => ("Usewise$Lease", "written", "J", false)
  | _ => ("Usewise$Lease", "gains", "J", false)
def tyX0 : Nat → FieldType := fun k => match k with
  | 0 => .int
  | 1 => .int
  | 2 => .array .int
  | 3 => .array .int
  | 4 => .int
  | 5 => .int
  | 6 => .long
  | 7 => .long
  | 8 => .long
  | 9 => .long
  | _ => .long
abbrev wsX00 : List Cond := u_ws RX0 TX0 11
theorem nmX0 : ∀ a, a < 11 → ∀ b, b < 11 → a ≠ b → (TX0 a).2.1 ≠ (TX0 b).2.1 := by decide +kernel
theorem tyX0_ok : ∀ k, k < 11 → parseFieldDescriptor (TX0 k).2.2.1 = some (tyX0 k) := by decide +kernel
abbrev cX0_init : ByteArray := prog_2_method_1_code
def yX0_init : MethodName := ⟨RX0, "<init>", "(IIIIIII)V"⟩
abbrev cX0_monthsLeft : ByteArray := prog_2_method_2_code
def yX0_monthsLeft : MethodName := ⟨RX0, "monthsLeft", "()I"⟩
abbrev cX0_debtNow : ByteArray := prog_2_method_3_code
def yX0_debtNow : MethodName := ⟨RX0, "debtNow", "()I"⟩
abbrev cX0_paymentIn : ByteArray := prog_2_method_4_code
def yX0_paymentIn : MethodName := ⟨RX0, "paymentIn", "(I)I"⟩
abbrev cX0_hasRoomFor : ByteArray := prog_2_method_5_code
def yX0_hasRoomFor : MethodName := ⟨RX0, "hasRoomFor", "(I)Z"⟩
abbrev cX0_worthAt : ByteArray := prog_2_method_6_code
def yX0_worthAt : MethodName := ⟨RX0, "worthAt", "(I)J"⟩
abbrev cX0_worthBefore : ByteArray := prog_2_method_7_code
def yX0_worthBefore : MethodName := ⟨RX0, "worthBefore", "(JI)J"⟩
abbrev cX0_layDebts : ByteArray := prog_2_method_8_code
def yX0_layDebts : MethodName := ⟨RX0, "layDebts", "()V"⟩
abbrev cX0_endsWithin : ByteArray := prog_2_method_9_code
def yX0_endsWithin : MethodName := ⟨RX0, "endsWithin", "(I)Z"⟩
abbrev cX0_passOneMonth : ByteArray := prog_2_method_10_code
def yX0_passOneMonth : MethodName := ⟨RX0, "passOneMonth", "()V"⟩
abbrev cX0_monthsToWriteOver : ByteArray := prog_2_method_11_code
def yX0_monthsToWriteOver : MethodName := ⟨RX0, "monthsToWriteOver", "()I"⟩
abbrev cX0_wouldPassTheMost : ByteArray := prog_2_method_12_code
def yX0_wouldPassTheMost : MethodName := ⟨RX0, "wouldPassTheMost", "(I)Z"⟩
abbrev cX0_reviewPayments : ByteArray := prog_2_method_13_code
def yX0_reviewPayments : MethodName := ⟨RX0, "reviewPayments", "(I)V"⟩
abbrev cX0_putBehind : ByteArray := prog_2_method_14_code
def yX0_putBehind : MethodName := ⟨RX0, "putBehind", "(II)V"⟩
abbrev cX0_takeOffTheEnd : ByteArray := prog_2_method_15_code
def yX0_takeOffTheEnd : MethodName := ⟨RX0, "takeOffTheEnd", "(I)I"⟩
abbrev cX0_keepPart : ByteArray := prog_2_method_16_code
def yX0_keepPart : MethodName := ⟨RX0, "keepPart", "(I)I"⟩
abbrev cX0_scalePayments : ByteArray := prog_2_method_17_code
def yX0_scalePayments : MethodName := ⟨RX0, "scalePayments", "(I)V"⟩
abbrev cX0_percentOf : ByteArray := prog_2_method_18_code
def yX0_percentOf : MethodName := ⟨RX0, "percentOf", "(JI)J"⟩
abbrev cX0_followDebt : ByteArray := prog_2_method_19_code
def yX0_followDebt : MethodName := ⟨RX0, "followDebt", "()V"⟩
abbrev cX0_giveUp : ByteArray := prog_2_method_20_code
def yX0_giveUp : MethodName := ⟨RX0, "giveUp", "(J)I"⟩
def RX1 : String := "Usewise"
def TX1 : u_T := fun k => match k with
  | 0 => ("Usewise", "leases", "[LUsewise$Lease;", true)
  | _ => ("Usewise", "count", "I", false)
def tyX1 : Nat → FieldType := fun k => match k with
  | 0 => .array (.object "Usewise$Lease")
  | _ => .int
abbrev wsX10 : List Cond := u_ws RX1 TX1 2
theorem nmX1 : ∀ a, a < 2 → ∀ b, b < 2 → a ≠ b → (TX1 a).2.1 ≠ (TX1 b).2.1 := by decide +kernel
theorem tyX1_ok : ∀ k, k < 2 → parseFieldDescriptor (TX1 k).2.2.1 = some (tyX1 k) := by decide +kernel
abbrev cX1_init : ByteArray := prog_1_method_1_code
def yX1_init : MethodName := ⟨RX1, "<init>", "()V"⟩
abbrev cX1_add : ByteArray := prog_1_method_2_code
def yX1_add : MethodName := ⟨RX1, "add", "(IIIIIII)I"⟩
abbrev cX1_pass : ByteArray := prog_1_method_3_code
def yX1_pass : MethodName := ⟨RX1, "pass", "(I)I"⟩
abbrev cX1_review : ByteArray := prog_1_method_4_code
def yX1_review : MethodName := ⟨RX1, "review", "(II)I"⟩
abbrev cX1_lengthen : ByteArray := prog_1_method_5_code
def yX1_lengthen : MethodName := ⟨RX1, "lengthen", "(III)I"⟩
abbrev cX1_shorten : ByteArray := prog_1_method_6_code
def yX1_shorten : MethodName := ⟨RX1, "shorten", "(II)I"⟩
abbrev cX1_cut : ByteArray := prog_1_method_7_code
def yX1_cut : MethodName := ⟨RX1, "cut", "(II)I"⟩
abbrev cX1_toCome : ByteArray := prog_1_method_8_code
def yX1_toCome : MethodName := ⟨RX1, "toCome", "(I)I"⟩
abbrev cX1_payment : ByteArray := prog_1_method_9_code
def yX1_payment : MethodName := ⟨RX1, "payment", "(II)I"⟩
abbrev cX1_debt : ByteArray := prog_1_method_10_code
def yX1_debt : MethodName := ⟨RX1, "debt", "(I)I"⟩
abbrev cX1_debtByWorth : ByteArray := prog_1_method_11_code
def yX1_debtByWorth : MethodName := ⟨RX1, "debtByWorth", "(I)I"⟩
abbrev cX1_right : ByteArray := prog_1_method_12_code
def yX1_right : MethodName := ⟨RX1, "right", "(I)I"⟩
abbrev cX1_interest : ByteArray := prog_1_method_13_code
def yX1_interest : MethodName := ⟨RX1, "interest", "(I)I"⟩
abbrev cX1_written : ByteArray := prog_1_method_14_code
def yX1_written : MethodName := ⟨RX1, "written", "(I)I"⟩
abbrev cX1_paid : ByteArray := prog_1_method_15_code
def yX1_paid : MethodName := ⟨RX1, "paid", "(I)I"⟩
abbrev cX1_gains : ByteArray := prog_1_method_16_code
def yX1_gains : MethodName := ⟨RX1, "gains", "(I)I"⟩
abbrev cX1_rateFor : ByteArray := prog_1_method_17_code
def yX1_rateFor : MethodName := ⟨RX1, "rateFor", "(II)I"⟩
abbrev cX1_saleGain : ByteArray := prog_1_method_18_code
def yX1_saleGain : MethodName := ⟨RX1, "saleGain", "(III)I"⟩
abbrev cX1_mustBeWithin : ByteArray := prog_1_method_19_code
def yX1_mustBeWithin : MethodName := ⟨RX1, "mustBeWithin", "(III)V"⟩
abbrev cX1_mustGoOn : ByteArray := prog_1_method_20_code
def yX1_mustGoOn : MethodName := ⟨RX1, "mustGoOn", "(LUsewise$Lease;)V"⟩
abbrev cX1_leaseOf : ByteArray := prog_1_method_21_code
def yX1_leaseOf : MethodName := ⟨RX1, "leaseOf", "(I)LUsewise$Lease;"⟩
def RX2 : String := "UsewiseModel"
def TX2 : u_T := fun k => match k with
  | 0 => ("UsewiseModel", "payments", "[I", true)
  | 1 => ("UsewiseModel", "months", "[I", true)
  | 2 => ("UsewiseModel", "past", "[I", true)
  | 3 => ("UsewiseModel", "rate", "[I", true)
  | 4 => ("UsewiseModel", "life", "[I", true)
  | 5 => ("UsewiseModel", "debt", "[I", true)
  | 6 => ("UsewiseModel", "right", "[I", true)
  | 7 => ("UsewiseModel", "interest", "[I", true)
  | 8 => ("UsewiseModel", "written", "[I", true)
  | 9 => ("UsewiseModel", "paid", "[I", true)
  | 10 => ("UsewiseModel", "gains", "[I", true)
  | 11 => ("UsewiseModel", "leases", "I", false)
  | _ => ("UsewiseModel", "thrown", "I", false)
def tyX2 : Nat → FieldType := fun k => match k with
  | 0 => .array .int
  | 1 => .array .int
  | 2 => .array .int
  | 3 => .array .int
  | 4 => .array .int
  | 5 => .array .int
  | 6 => .array .int
  | 7 => .array .int
  | 8 => .array .int
  | 9 => .array .int
  | 10 => .array .int
  | 11 => .int
  | _ => .int
abbrev wsX20 : List Cond := u_ws RX2 TX2 13
theorem nmX2 : ∀ a, a < 13 → ∀ b, b < 13 → a ≠ b → (TX2 a).2.1 ≠ (TX2 b).2.1 := by decide +kernel
theorem tyX2_ok : ∀ k, k < 13 → parseFieldDescriptor (TX2 k).2.2.1 = some (tyX2 k) := by decide +kernel
abbrev cX2_init : ByteArray := prog_4_method_1_code
def yX2_init : MethodName := ⟨RX2, "<init>", "()V"⟩
abbrev cX2_thrown : ByteArray := prog_4_method_2_code
def yX2_thrown : MethodName := ⟨RX2, "thrown", "()I"⟩
abbrev cX2_fails : ByteArray := prog_4_method_3_code
def yX2_fails : MethodName := ⟨RX2, "fails", "(I)I"⟩
abbrev cX2_in : ByteArray := prog_4_method_4_code
def yX2_in : MethodName := ⟨RX2, "in", "(III)Z"⟩
abbrev cX2_isNoLease : ByteArray := prog_4_method_5_code
def yX2_isNoLease : MethodName := ⟨RX2, "isNoLease", "(I)Z"⟩
abbrev cX2_left : ByteArray := prog_4_method_6_code
def yX2_left : MethodName := ⟨RX2, "left", "(I)I"⟩
abbrev cX2_worth : ByteArray := prog_4_method_7_code
def yX2_worth : MethodName := ⟨RX2, "worth", "(III)I"⟩
abbrev cX2_worthNow : ByteArray := prog_4_method_8_code
def yX2_worthNow : MethodName := ⟨RX2, "worthNow", "(I)I"⟩
abbrev cX2_add : ByteArray := prog_4_method_9_code
def yX2_add : MethodName := ⟨RX2, "add", "(IIIIIII)I"⟩
abbrev cX2_month : ByteArray := prog_4_method_10_code
def yX2_month : MethodName := ⟨RX2, "month", "(I)V"⟩
abbrev cX2_pass : ByteArray := prog_4_method_11_code
def yX2_pass : MethodName := ⟨RX2, "pass", "(I)I"⟩
abbrev cX2_laidAgain : ByteArray := prog_4_method_12_code
def yX2_laidAgain : MethodName := ⟨RX2, "laidAgain", "(I)I"⟩
abbrev cX2_review : ByteArray := prog_4_method_13_code
def yX2_review : MethodName := ⟨RX2, "review", "(II)I"⟩
abbrev cX2_lengthen : ByteArray := prog_4_method_14_code
def yX2_lengthen : MethodName := ⟨RX2, "lengthen", "(III)I"⟩
abbrev cX2_givenUp : ByteArray := prog_4_method_15_code
def yX2_givenUp : MethodName := ⟨RX2, "givenUp", "(II)I"⟩
abbrev cX2_shorten : ByteArray := prog_4_method_16_code
def yX2_shorten : MethodName := ⟨RX2, "shorten", "(II)I"⟩
abbrev cX2_cut : ByteArray := prog_4_method_17_code
def yX2_cut : MethodName := ⟨RX2, "cut", "(II)I"⟩
abbrev cX2_toCome : ByteArray := prog_4_method_18_code
def yX2_toCome : MethodName := ⟨RX2, "toCome", "(I)I"⟩
abbrev cX2_payment : ByteArray := prog_4_method_19_code
def yX2_payment : MethodName := ⟨RX2, "payment", "(II)I"⟩
abbrev cX2_debt : ByteArray := prog_4_method_20_code
def yX2_debt : MethodName := ⟨RX2, "debt", "(I)I"⟩
abbrev cX2_debtByWorth : ByteArray := prog_4_method_21_code
def yX2_debtByWorth : MethodName := ⟨RX2, "debtByWorth", "(I)I"⟩
abbrev cX2_right : ByteArray := prog_4_method_22_code
def yX2_right : MethodName := ⟨RX2, "right", "(I)I"⟩
abbrev cX2_interest : ByteArray := prog_4_method_23_code
def yX2_interest : MethodName := ⟨RX2, "interest", "(I)I"⟩
abbrev cX2_written : ByteArray := prog_4_method_24_code
def yX2_written : MethodName := ⟨RX2, "written", "(I)I"⟩
abbrev cX2_paid : ByteArray := prog_4_method_25_code
def yX2_paid : MethodName := ⟨RX2, "paid", "(I)I"⟩
abbrev cX2_gains : ByteArray := prog_4_method_26_code
def yX2_gains : MethodName := ⟨RX2, "gains", "(I)I"⟩
abbrev cX2_rateFor : ByteArray := prog_4_method_27_code
def yX2_rateFor : MethodName := ⟨RX2, "rateFor", "(II)I"⟩
abbrev cX2_saleGain : ByteArray := prog_4_method_28_code
def yX2_saleGain : MethodName := ⟨RX2, "saleGain", "(III)I"⟩
def RJ9 : String := "java/lang/Math"
def TJ9 : u_T := fun k => match k with
  | _ => ("", "", "", false)
def tyJ9 : Nat → FieldType := fun k => match k with
  | _ => .int
abbrev wsJ90 : List Cond := u_ws RJ9 TJ9 0
theorem nmJ9 : ∀ a, a < 0 → ∀ b, b < 0 → a ≠ b → (TJ9 a).2.1 ≠ (TJ9 b).2.1 := by decide +kernel
theorem tyJ9_ok : ∀ k, k < 0 → parseFieldDescriptor (TJ9 k).2.2.1 = some (tyJ9 k) := by decide +kernel
abbrev cJ9_max_7cf53 : ByteArray := prog_9_method_65_code
def yJ9_max_7cf53 : MethodName := ⟨RJ9, "max", "(II)I"⟩
abbrev cJ9_min_7cf53 : ByteArray := prog_9_method_69_code
def yJ9_min_7cf53 : MethodName := ⟨RJ9, "min", "(II)I"⟩
def RJ0 : String := "java/lang/String"
def TJ0 : u_T := fun k => match k with
  | _ => ("", "", "", false)
def tyJ0 : Nat → FieldType := fun k => match k with
  | _ => .int
abbrev wsJ00 : List Cond := u_ws RJ0 TJ0 0
theorem nmJ0 : ∀ a, a < 0 → ∀ b, b < 0 → a ≠ b → (TJ0 a).2.1 ≠ (TJ0 b).2.1 := by decide +kernel
theorem tyJ0_ok : ∀ k, k < 0 → parseFieldDescriptor (TJ0 k).2.2.1 = some (tyJ0 k) := by decide +kernel
def RL : String := "UsewiseLaw"
abbrev cL_add : ByteArray := method_3_code
def yL_add : MethodName := ⟨RL, "add", "(LUsewise;IIIIIII[J)I"⟩
abbrev cL_pass : ByteArray := method_4_code
def yL_pass : MethodName := ⟨RL, "pass", "(LUsewise;I[J)I"⟩
abbrev cL_review : ByteArray := method_5_code
def yL_review : MethodName := ⟨RL, "review", "(LUsewise;II[J)I"⟩
abbrev cL_lengthen : ByteArray := method_6_code
def yL_lengthen : MethodName := ⟨RL, "lengthen", "(LUsewise;III[J)I"⟩
abbrev cL_shorten : ByteArray := method_7_code
def yL_shorten : MethodName := ⟨RL, "shorten", "(LUsewise;II[J)I"⟩
abbrev cL_cut : ByteArray := method_8_code
def yL_cut : MethodName := ⟨RL, "cut", "(LUsewise;II[J)I"⟩
abbrev cL_toCome : ByteArray := method_9_code
def yL_toCome : MethodName := ⟨RL, "toCome", "(LUsewise;I[J)I"⟩
abbrev cL_payment : ByteArray := method_10_code
def yL_payment : MethodName := ⟨RL, "payment", "(LUsewise;II[J)I"⟩
abbrev cL_debt : ByteArray := method_11_code
def yL_debt : MethodName := ⟨RL, "debt", "(LUsewise;I[J)I"⟩
abbrev cL_debtByWorth : ByteArray := method_12_code
def yL_debtByWorth : MethodName := ⟨RL, "debtByWorth", "(LUsewise;I[J)I"⟩
abbrev cL_right : ByteArray := method_13_code
def yL_right : MethodName := ⟨RL, "right", "(LUsewise;I[J)I"⟩
abbrev cL_interest : ByteArray := method_14_code
def yL_interest : MethodName := ⟨RL, "interest", "(LUsewise;I[J)I"⟩
abbrev cL_written : ByteArray := method_15_code
def yL_written : MethodName := ⟨RL, "written", "(LUsewise;I[J)I"⟩
abbrev cL_paid : ByteArray := method_16_code
def yL_paid : MethodName := ⟨RL, "paid", "(LUsewise;I[J)I"⟩
abbrev cL_gains : ByteArray := method_17_code
def yL_gains : MethodName := ⟨RL, "gains", "(LUsewise;I[J)I"⟩
abbrev cL_rateFor : ByteArray := method_18_code
def yL_rateFor : MethodName := ⟨RL, "rateFor", "(LUsewise;II[J)I"⟩
abbrev cL_saleGain : ByteArray := method_19_code
def yL_saleGain : MethodName := ⟨RL, "saleGain", "(LUsewise;III[J)I"⟩
abbrev cL_law : ByteArray := code
def yL_law : MethodName := ⟨RL, "law", "([I)Z"⟩
def wsX0_worthBefore : List Cond := .code yX0_worthBefore cX0_worthBefore 5 (some .long) :: ([.constantLong RX0 55 (1000000)])
def wsX0_layDebts : List Cond := .code yX0_layDebts cX0_layDebts 2 none :: ([.fieldLink RX0 34 "Usewise$Lease" "debts" "[I", .fieldLink RX0 27 "Usewise$Lease" "term" "I", .fieldLink RX0 48 "Usewise$Lease" "past" "I", .fieldLink RX0 30 "Usewise$Lease" "payments" "[I", .fieldLink RX0 9 "Usewise$Lease" "rate" "I", .methodLink RX0 51 yX0_worthBefore, .static yX0_worthBefore, .initialized RX0, .code yX0_worthBefore cX0_worthBefore 5 (some .long), .constantLong RX0 55 (1000000)] ++ wsX00)
def wsX0_debtNow : List Cond := .code yX0_debtNow cX0_debtNow 1 (some .int) :: ([.fieldLink RX0 34 "Usewise$Lease" "debts" "[I", .fieldLink RX0 48 "Usewise$Lease" "past" "I"] ++ wsX00)
def wsX0_init_r1 : List Cond := [Cond.methodLink RX0 3 objectInit, Cond.instanceMethod objectInit, Cond.code objectInit ⟨#[0xb1]⟩ 1 none, Cond.fieldLink RX0 9 "Usewise$Lease" "rate" "I", Cond.fieldLink RX0 15 "Usewise$Lease" "life" "I", Cond.methodLink RX0 18 Lib.Math.min.name, Cond.static Lib.Math.min.name, Cond.initialized "java/lang/Math", Cond.code Lib.Math.min.name Lib.Math.min.code 2 (some .int), Cond.methodLink RX0 24 Lib.Math.max.name, Cond.static Lib.Math.max.name, Cond.code Lib.Math.max.name Lib.Math.max.code 2 (some .int), Cond.fieldLink RX0 27 "Usewise$Lease" "term" "I", Cond.arrayClass .int, Cond.fieldLink RX0 30 "Usewise$Lease" "payments" "[I", Cond.fieldLink RX0 34 "Usewise$Lease" "debts" "[I", Cond.fieldLink RX0 44 "Usewise$Lease" "right" "J", Cond.methodLink RX0 37 yX0_layDebts, Cond.instanceMethod yX0_layDebts, Cond.selects RX0 yX0_layDebts yX0_layDebts, Cond.initialized RX0, Cond.code yX0_layDebts cX0_layDebts 2 none, Cond.fieldLink RX0 48 "Usewise$Lease" "past" "I", Cond.methodLink RX0 51 yX0_worthBefore]
def wsX0_init_r2 : List Cond := [Cond.static yX0_worthBefore, Cond.code yX0_worthBefore cX0_worthBefore 5 (some .long), Cond.constantLong RX0 55 (1000000), Cond.methodLink RX0 40 yX0_debtNow, Cond.instanceMethod yX0_debtNow, Cond.selects RX0 yX0_debtNow yX0_debtNow, Cond.code yX0_debtNow cX0_debtNow 1 (some .int)]
def wsX0_init : List Cond := .code yX0_init cX0_init 9 none :: ((wsX0_init_r1 ++ wsX0_init_r2) ++ wsX00)
def wsX0_monthsLeft : List Cond := .code yX0_monthsLeft cX0_monthsLeft 1 (some .int) :: ([.fieldLink RX0 27 "Usewise$Lease" "term" "I", .fieldLink RX0 48 "Usewise$Lease" "past" "I"] ++ wsX00)
def wsX0_paymentIn : List Cond := .code yX0_paymentIn cX0_paymentIn 2 (some .int) :: ([.fieldLink RX0 30 "Usewise$Lease" "payments" "[I", .fieldLink RX0 48 "Usewise$Lease" "past" "I"] ++ wsX00)
def wsX0_hasRoomFor : List Cond := .code yX0_hasRoomFor cX0_hasRoomFor 2 (some .boolean) :: ([.fieldLink RX0 27 "Usewise$Lease" "term" "I"] ++ wsX00)
def wsX0_worthAt : List Cond := .code yX0_worthAt cX0_worthAt 5 (some .long) :: ([.fieldLink RX0 27 "Usewise$Lease" "term" "I", .fieldLink RX0 48 "Usewise$Lease" "past" "I", .fieldLink RX0 30 "Usewise$Lease" "payments" "[I", .methodLink RX0 51 yX0_worthBefore, .static yX0_worthBefore, .initialized RX0, .code yX0_worthBefore cX0_worthBefore 5 (some .long), .constantLong RX0 55 (1000000)] ++ wsX00)
def wsX0_monthsToWriteOver : List Cond := .code yX0_monthsToWriteOver cX0_monthsToWriteOver 1 (some .int) :: ([.fieldLink RX0 27 "Usewise$Lease" "term" "I", .fieldLink RX0 48 "Usewise$Lease" "past" "I", .fieldLink RX0 15 "Usewise$Lease" "life" "I", .methodLink RX0 18 Lib.Math.min.name, .static Lib.Math.min.name, .initialized "java/lang/Math", .code Lib.Math.min.name Lib.Math.min.code 2 (some .int), .methodLink RX0 24 Lib.Math.max.name, .static Lib.Math.max.name, .code Lib.Math.max.name Lib.Math.max.code 2 (some .int)] ++ wsX00)
def wsX0_passOneMonth : List Cond := .code yX0_passOneMonth cX0_passOneMonth 4 none :: ([.fieldLink RX0 30 "Usewise$Lease" "payments" "[I", .fieldLink RX0 48 "Usewise$Lease" "past" "I", .fieldLink RX0 63 "Usewise$Lease" "interest" "J", .fieldLink RX0 34 "Usewise$Lease" "debts" "[I", .fieldLink RX0 66 "Usewise$Lease" "paid" "J", .fieldLink RX0 44 "Usewise$Lease" "right" "J", .fieldLink RX0 72 "Usewise$Lease" "written" "J", .methodLink RX0 69 yX0_monthsToWriteOver, .instanceMethod yX0_monthsToWriteOver, .selects RX0 yX0_monthsToWriteOver yX0_monthsToWriteOver, .initialized RX0, .code yX0_monthsToWriteOver cX0_monthsToWriteOver 1 (some .int), .fieldLink RX0 27 "Usewise$Lease" "term" "I", .fieldLink RX0 15 "Usewise$Lease" "life" "I", .methodLink RX0 18 Lib.Math.min.name, .static Lib.Math.min.name, .initialized "java/lang/Math", .code Lib.Math.min.name Lib.Math.min.code 2 (some .int), .methodLink RX0 24 Lib.Math.max.name, .static Lib.Math.max.name, .code Lib.Math.max.name Lib.Math.max.code 2 (some .int)] ++ wsX00)
def wsX0_endsWithin_r1 : List Cond := [Cond.methodLink RX0 18 Lib.Math.min.name, Cond.static Lib.Math.min.name, Cond.initialized "java/lang/Math", Cond.code Lib.Math.min.name Lib.Math.min.code 2 (some .int), Cond.methodLink RX0 57 yX0_monthsLeft, Cond.instanceMethod yX0_monthsLeft, Cond.selects RX0 yX0_monthsLeft yX0_monthsLeft, Cond.initialized RX0, Cond.code yX0_monthsLeft cX0_monthsLeft 1 (some .int), Cond.fieldLink RX0 27 "Usewise$Lease" "term" "I", Cond.fieldLink RX0 48 "Usewise$Lease" "past" "I", Cond.methodLink RX0 60 yX0_passOneMonth, Cond.instanceMethod yX0_passOneMonth, Cond.selects RX0 yX0_passOneMonth yX0_passOneMonth, Cond.code yX0_passOneMonth cX0_passOneMonth 4 none, Cond.fieldLink RX0 30 "Usewise$Lease" "payments" "[I", Cond.fieldLink RX0 63 "Usewise$Lease" "interest" "J", Cond.fieldLink RX0 34 "Usewise$Lease" "debts" "[I", Cond.fieldLink RX0 66 "Usewise$Lease" "paid" "J", Cond.fieldLink RX0 44 "Usewise$Lease" "right" "J", Cond.fieldLink RX0 72 "Usewise$Lease" "written" "J", Cond.methodLink RX0 69 yX0_monthsToWriteOver, Cond.instanceMethod yX0_monthsToWriteOver, Cond.selects RX0 yX0_monthsToWriteOver yX0_monthsToWriteOver]
def wsX0_endsWithin_r2 : List Cond := [Cond.code yX0_monthsToWriteOver cX0_monthsToWriteOver 1 (some .int), Cond.fieldLink RX0 15 "Usewise$Lease" "life" "I", Cond.methodLink RX0 24 Lib.Math.max.name, Cond.static Lib.Math.max.name, Cond.code Lib.Math.max.name Lib.Math.max.code 2 (some .int)]
def wsX0_endsWithin : List Cond := .code yX0_endsWithin cX0_endsWithin 4 (some .boolean) :: ((wsX0_endsWithin_r1 ++ wsX0_endsWithin_r2) ++ wsX00)
def wsX0_percentOf : List Cond := .code yX0_percentOf cX0_percentOf 3 (some .long) :: ([.constantLong RX0 89 (100)])
def wsX0_wouldPassTheMost : List Cond := .code yX0_wouldPassTheMost cX0_wouldPassTheMost 3 (some .boolean) :: ([.fieldLink RX0 48 "Usewise$Lease" "past" "I", .fieldLink RX0 27 "Usewise$Lease" "term" "I", .fieldLink RX0 30 "Usewise$Lease" "payments" "[I", .constantLong RX0 55 (1000000), .methodLink RX0 75 yX0_percentOf, .static yX0_percentOf, .initialized RX0, .code yX0_percentOf cX0_percentOf 3 (some .long), .constantLong RX0 89 (100)] ++ wsX00)
def wsX0_scalePayments : List Cond := .code yX0_scalePayments cX0_scalePayments 3 none :: ([.fieldLink RX0 48 "Usewise$Lease" "past" "I", .fieldLink RX0 27 "Usewise$Lease" "term" "I", .fieldLink RX0 30 "Usewise$Lease" "payments" "[I", .methodLink RX0 75 yX0_percentOf, .static yX0_percentOf, .initialized RX0, .code yX0_percentOf cX0_percentOf 3 (some .long), .constantLong RX0 89 (100)] ++ wsX00)
def wsX0_followDebt : List Cond := .code yX0_followDebt cX0_followDebt 3 none :: ([.fieldLink RX0 44 "Usewise$Lease" "right" "J", .fieldLink RX0 91 "Usewise$Lease" "gains" "J", .methodLink RX0 40 yX0_debtNow, .instanceMethod yX0_debtNow, .selects RX0 yX0_debtNow yX0_debtNow, .initialized RX0, .code yX0_debtNow cX0_debtNow 1 (some .int), .fieldLink RX0 34 "Usewise$Lease" "debts" "[I", .fieldLink RX0 48 "Usewise$Lease" "past" "I", .methodLink RX0 37 yX0_layDebts, .instanceMethod yX0_layDebts, .selects RX0 yX0_layDebts yX0_layDebts, .code yX0_layDebts cX0_layDebts 2 none, .fieldLink RX0 27 "Usewise$Lease" "term" "I", .fieldLink RX0 30 "Usewise$Lease" "payments" "[I", .fieldLink RX0 9 "Usewise$Lease" "rate" "I", .methodLink RX0 51 yX0_worthBefore, .static yX0_worthBefore, .code yX0_worthBefore cX0_worthBefore 5 (some .long), .constantLong RX0 55 (1000000)] ++ wsX00)
def wsX0_reviewPayments_r1 : List Cond := [Cond.methodLink RX0 78 yX0_scalePayments, Cond.instanceMethod yX0_scalePayments, Cond.selects RX0 yX0_scalePayments yX0_scalePayments, Cond.initialized RX0, Cond.code yX0_scalePayments cX0_scalePayments 3 none, Cond.fieldLink RX0 48 "Usewise$Lease" "past" "I", Cond.fieldLink RX0 27 "Usewise$Lease" "term" "I", Cond.fieldLink RX0 30 "Usewise$Lease" "payments" "[I", Cond.methodLink RX0 75 yX0_percentOf, Cond.static yX0_percentOf, Cond.code yX0_percentOf cX0_percentOf 3 (some .long), Cond.constantLong RX0 89 (100), Cond.methodLink RX0 82 yX0_followDebt, Cond.instanceMethod yX0_followDebt, Cond.selects RX0 yX0_followDebt yX0_followDebt, Cond.code yX0_followDebt cX0_followDebt 3 none, Cond.fieldLink RX0 44 "Usewise$Lease" "right" "J", Cond.fieldLink RX0 91 "Usewise$Lease" "gains" "J", Cond.methodLink RX0 40 yX0_debtNow, Cond.instanceMethod yX0_debtNow, Cond.selects RX0 yX0_debtNow yX0_debtNow, Cond.code yX0_debtNow cX0_debtNow 1 (some .int), Cond.fieldLink RX0 34 "Usewise$Lease" "debts" "[I", Cond.methodLink RX0 37 yX0_layDebts]
def wsX0_reviewPayments_r2 : List Cond := [Cond.instanceMethod yX0_layDebts, Cond.selects RX0 yX0_layDebts yX0_layDebts, Cond.code yX0_layDebts cX0_layDebts 2 none, Cond.fieldLink RX0 9 "Usewise$Lease" "rate" "I", Cond.methodLink RX0 51 yX0_worthBefore, Cond.static yX0_worthBefore, Cond.code yX0_worthBefore cX0_worthBefore 5 (some .long), Cond.constantLong RX0 55 (1000000)]
def wsX0_reviewPayments : List Cond := .code yX0_reviewPayments cX0_reviewPayments 2 none :: ((wsX0_reviewPayments_r1 ++ wsX0_reviewPayments_r2) ++ wsX00)
def wsX0_putBehind_r1 : List Cond := [Cond.fieldLink RX0 27 "Usewise$Lease" "term" "I", Cond.methodLink RX0 18 Lib.Math.min.name, Cond.static Lib.Math.min.name, Cond.initialized "java/lang/Math", Cond.code Lib.Math.min.name Lib.Math.min.code 2 (some .int), Cond.fieldLink RX0 30 "Usewise$Lease" "payments" "[I", Cond.methodLink RX0 82 yX0_followDebt, Cond.instanceMethod yX0_followDebt, Cond.selects RX0 yX0_followDebt yX0_followDebt, Cond.initialized RX0, Cond.code yX0_followDebt cX0_followDebt 3 none, Cond.fieldLink RX0 44 "Usewise$Lease" "right" "J", Cond.fieldLink RX0 91 "Usewise$Lease" "gains" "J", Cond.methodLink RX0 40 yX0_debtNow, Cond.instanceMethod yX0_debtNow, Cond.selects RX0 yX0_debtNow yX0_debtNow, Cond.code yX0_debtNow cX0_debtNow 1 (some .int), Cond.fieldLink RX0 34 "Usewise$Lease" "debts" "[I", Cond.fieldLink RX0 48 "Usewise$Lease" "past" "I", Cond.methodLink RX0 37 yX0_layDebts, Cond.instanceMethod yX0_layDebts, Cond.selects RX0 yX0_layDebts yX0_layDebts, Cond.code yX0_layDebts cX0_layDebts 2 none, Cond.fieldLink RX0 9 "Usewise$Lease" "rate" "I"]
def wsX0_putBehind_r2 : List Cond := [Cond.methodLink RX0 51 yX0_worthBefore, Cond.static yX0_worthBefore, Cond.code yX0_worthBefore cX0_worthBefore 5 (some .long), Cond.constantLong RX0 55 (1000000)]
def wsX0_putBehind : List Cond := .code yX0_putBehind cX0_putBehind 5 none :: ((wsX0_putBehind_r1 ++ wsX0_putBehind_r2) ++ wsX00)
def wsX0_giveUp : List Cond := .code yX0_giveUp cX0_giveUp 7 (some .int) :: ([.fieldLink RX0 44 "Usewise$Lease" "right" "J", .fieldLink RX0 91 "Usewise$Lease" "gains" "J", .methodLink RX0 40 yX0_debtNow, .instanceMethod yX0_debtNow, .selects RX0 yX0_debtNow yX0_debtNow, .initialized RX0, .code yX0_debtNow cX0_debtNow 1 (some .int), .fieldLink RX0 34 "Usewise$Lease" "debts" "[I", .fieldLink RX0 48 "Usewise$Lease" "past" "I", .methodLink RX0 37 yX0_layDebts, .instanceMethod yX0_layDebts, .selects RX0 yX0_layDebts yX0_layDebts, .code yX0_layDebts cX0_layDebts 2 none, .fieldLink RX0 27 "Usewise$Lease" "term" "I", .fieldLink RX0 30 "Usewise$Lease" "payments" "[I", .fieldLink RX0 9 "Usewise$Lease" "rate" "I", .methodLink RX0 51 yX0_worthBefore, .static yX0_worthBefore, .code yX0_worthBefore cX0_worthBefore 5 (some .long), .constantLong RX0 55 (1000000)] ++ wsX00)
def wsX0_takeOffTheEnd_r1 : List Cond := [Cond.fieldLink RX0 27 "Usewise$Lease" "term" "I", Cond.fieldLink RX0 44 "Usewise$Lease" "right" "J", Cond.methodLink RX0 57 yX0_monthsLeft, Cond.instanceMethod yX0_monthsLeft, Cond.selects RX0 yX0_monthsLeft yX0_monthsLeft, Cond.initialized RX0, Cond.code yX0_monthsLeft cX0_monthsLeft 1 (some .int), Cond.fieldLink RX0 48 "Usewise$Lease" "past" "I", Cond.methodLink RX0 85 yX0_giveUp, Cond.instanceMethod yX0_giveUp, Cond.selects RX0 yX0_giveUp yX0_giveUp, Cond.code yX0_giveUp cX0_giveUp 7 (some .int), Cond.fieldLink RX0 91 "Usewise$Lease" "gains" "J", Cond.methodLink RX0 40 yX0_debtNow, Cond.instanceMethod yX0_debtNow, Cond.selects RX0 yX0_debtNow yX0_debtNow, Cond.code yX0_debtNow cX0_debtNow 1 (some .int), Cond.fieldLink RX0 34 "Usewise$Lease" "debts" "[I", Cond.methodLink RX0 37 yX0_layDebts, Cond.instanceMethod yX0_layDebts, Cond.selects RX0 yX0_layDebts yX0_layDebts, Cond.code yX0_layDebts cX0_layDebts 2 none, Cond.fieldLink RX0 30 "Usewise$Lease" "payments" "[I", Cond.fieldLink RX0 9 "Usewise$Lease" "rate" "I"]
def wsX0_takeOffTheEnd_r2 : List Cond := [Cond.methodLink RX0 51 yX0_worthBefore, Cond.static yX0_worthBefore, Cond.code yX0_worthBefore cX0_worthBefore 5 (some .long), Cond.constantLong RX0 55 (1000000)]
def wsX0_takeOffTheEnd : List Cond := .code yX0_takeOffTheEnd cX0_takeOffTheEnd 3 (some .int) :: ((wsX0_takeOffTheEnd_r1 ++ wsX0_takeOffTheEnd_r2) ++ wsX00)
def wsX0_keepPart_r1 : List Cond := [Cond.fieldLink RX0 44 "Usewise$Lease" "right" "J", Cond.methodLink RX0 78 yX0_scalePayments, Cond.instanceMethod yX0_scalePayments, Cond.selects RX0 yX0_scalePayments yX0_scalePayments, Cond.initialized RX0, Cond.code yX0_scalePayments cX0_scalePayments 3 none, Cond.fieldLink RX0 48 "Usewise$Lease" "past" "I", Cond.fieldLink RX0 27 "Usewise$Lease" "term" "I", Cond.fieldLink RX0 30 "Usewise$Lease" "payments" "[I", Cond.methodLink RX0 75 yX0_percentOf, Cond.static yX0_percentOf, Cond.code yX0_percentOf cX0_percentOf 3 (some .long), Cond.constantLong RX0 89 (100), Cond.methodLink RX0 85 yX0_giveUp, Cond.instanceMethod yX0_giveUp, Cond.selects RX0 yX0_giveUp yX0_giveUp, Cond.code yX0_giveUp cX0_giveUp 7 (some .int), Cond.fieldLink RX0 91 "Usewise$Lease" "gains" "J", Cond.methodLink RX0 40 yX0_debtNow, Cond.instanceMethod yX0_debtNow, Cond.selects RX0 yX0_debtNow yX0_debtNow, Cond.code yX0_debtNow cX0_debtNow 1 (some .int), Cond.fieldLink RX0 34 "Usewise$Lease" "debts" "[I", Cond.methodLink RX0 37 yX0_layDebts]
def wsX0_keepPart_r2 : List Cond := [Cond.instanceMethod yX0_layDebts, Cond.selects RX0 yX0_layDebts yX0_layDebts, Cond.code yX0_layDebts cX0_layDebts 2 none, Cond.fieldLink RX0 9 "Usewise$Lease" "rate" "I", Cond.methodLink RX0 51 yX0_worthBefore, Cond.static yX0_worthBefore, Cond.code yX0_worthBefore cX0_worthBefore 5 (some .long), Cond.constantLong RX0 55 (1000000)]
def wsX0_keepPart : List Cond := .code yX0_keepPart cX0_keepPart 2 (some .int) :: ((wsX0_keepPart_r1 ++ wsX0_keepPart_r2) ++ wsX00)
def wsX1_init : List Cond := .code yX1_init cX1_init 1 none :: ([.methodLink RX1 1 objectInit, .instanceMethod objectInit, .code objectInit ⟨#[0xb1]⟩ 1 none, .classLink RX1 9 RX0, .fieldLink RX1 11 "Usewise" "leases" "[LUsewise$Lease;", .fieldLink RX1 15 "Usewise" "count" "I"] ++ wsX10)
def wsX1_mustBeWithin : List Cond := .code yX1_mustBeWithin cX1_mustBeWithin 3 none :: ([.classLink RX1 111 "java/lang/IllegalArgumentException", .initialized "java/lang/IllegalArgumentException"] ++ (vx_atS RX1 115 "java/lang/IllegalArgumentException" ["java/lang/RuntimeException", "java/lang/Exception"]).filter goodWord)
def wsX1_add_r1 : List Cond := [Cond.classLink RX1 23 "java/lang/IllegalStateException", Cond.initialized "java/lang/IllegalStateException", Cond.fieldLink RX1 15 "Usewise" "count" "I", Cond.fieldLink RX1 11 "Usewise" "leases" "[LUsewise$Lease;", Cond.classLink RX1 9 RX0, Cond.instantiable RX0 11, Cond.initialized RX0, Cond.methodLink RX1 19 yX1_mustBeWithin, Cond.static yX1_mustBeWithin, Cond.initialized RX1, Cond.code yX1_mustBeWithin cX1_mustBeWithin 3 none, Cond.classLink RX1 111 "java/lang/IllegalArgumentException", Cond.initialized "java/lang/IllegalArgumentException", Cond.methodLink RX1 30 yX0_init, Cond.instanceMethod yX0_init, Cond.code yX0_init cX0_init 9 none, Cond.methodLink RX0 3 objectInit, Cond.instanceMethod objectInit, Cond.code objectInit ⟨#[0xb1]⟩ 1 none, Cond.fieldLink RX0 9 "Usewise$Lease" "rate" "I", Cond.fieldLink RX0 15 "Usewise$Lease" "life" "I", Cond.methodLink RX0 18 Lib.Math.min.name, Cond.static Lib.Math.min.name, Cond.initialized "java/lang/Math"]
def wsX1_add_r2 : List Cond := [Cond.code Lib.Math.min.name Lib.Math.min.code 2 (some .int), Cond.methodLink RX0 24 Lib.Math.max.name, Cond.static Lib.Math.max.name, Cond.code Lib.Math.max.name Lib.Math.max.code 2 (some .int), Cond.fieldLink RX0 27 "Usewise$Lease" "term" "I", Cond.arrayClass .int, Cond.fieldLink RX0 30 "Usewise$Lease" "payments" "[I", Cond.fieldLink RX0 34 "Usewise$Lease" "debts" "[I", Cond.fieldLink RX0 44 "Usewise$Lease" "right" "J", Cond.methodLink RX0 37 yX0_layDebts, Cond.instanceMethod yX0_layDebts, Cond.selects RX0 yX0_layDebts yX0_layDebts, Cond.code yX0_layDebts cX0_layDebts 2 none, Cond.fieldLink RX0 48 "Usewise$Lease" "past" "I", Cond.methodLink RX0 51 yX0_worthBefore, Cond.static yX0_worthBefore, Cond.code yX0_worthBefore cX0_worthBefore 5 (some .long), Cond.constantLong RX0 55 (1000000), Cond.methodLink RX0 40 yX0_debtNow, Cond.instanceMethod yX0_debtNow, Cond.selects RX0 yX0_debtNow yX0_debtNow, Cond.code yX0_debtNow cX0_debtNow 1 (some .int)]
def wsX1_add : List Cond := .code yX1_add cX1_add 9 (some .int) :: ((wsX1_add_r1 ++ wsX1_add_r2) ++ wsX10 ++ wsX00 ++ (vx_atS RX1 27 "java/lang/IllegalStateException" ["java/lang/RuntimeException", "java/lang/Exception"]).filter goodWord ++ (vx_atS RX1 115 "java/lang/IllegalArgumentException" ["java/lang/RuntimeException", "java/lang/Exception"]).filter goodWord)
def wsX1_pass_r1 : List Cond := [Cond.fieldLink RX1 11 "Usewise" "leases" "[LUsewise$Lease;", Cond.methodLink RX1 19 yX1_mustBeWithin, Cond.static yX1_mustBeWithin, Cond.initialized RX1, Cond.code yX1_mustBeWithin cX1_mustBeWithin 3 none, Cond.classLink RX1 111 "java/lang/IllegalArgumentException", Cond.initialized "java/lang/IllegalArgumentException", Cond.methodLink RX1 33 yX0_endsWithin, Cond.instanceMethod yX0_endsWithin, Cond.selects RX0 yX0_endsWithin yX0_endsWithin, Cond.initialized RX0, Cond.code yX0_endsWithin cX0_endsWithin 4 (some .boolean), Cond.methodLink RX0 18 Lib.Math.min.name, Cond.static Lib.Math.min.name, Cond.initialized "java/lang/Math", Cond.code Lib.Math.min.name Lib.Math.min.code 2 (some .int), Cond.methodLink RX0 57 yX0_monthsLeft, Cond.instanceMethod yX0_monthsLeft, Cond.selects RX0 yX0_monthsLeft yX0_monthsLeft, Cond.code yX0_monthsLeft cX0_monthsLeft 1 (some .int), Cond.fieldLink RX0 27 "Usewise$Lease" "term" "I", Cond.fieldLink RX0 48 "Usewise$Lease" "past" "I", Cond.methodLink RX0 60 yX0_passOneMonth, Cond.instanceMethod yX0_passOneMonth]
def wsX1_pass_r2 : List Cond := [Cond.selects RX0 yX0_passOneMonth yX0_passOneMonth, Cond.code yX0_passOneMonth cX0_passOneMonth 4 none, Cond.fieldLink RX0 30 "Usewise$Lease" "payments" "[I", Cond.fieldLink RX0 63 "Usewise$Lease" "interest" "J", Cond.fieldLink RX0 34 "Usewise$Lease" "debts" "[I", Cond.fieldLink RX0 66 "Usewise$Lease" "paid" "J", Cond.fieldLink RX0 44 "Usewise$Lease" "right" "J", Cond.fieldLink RX0 72 "Usewise$Lease" "written" "J", Cond.methodLink RX0 69 yX0_monthsToWriteOver, Cond.instanceMethod yX0_monthsToWriteOver, Cond.selects RX0 yX0_monthsToWriteOver yX0_monthsToWriteOver, Cond.code yX0_monthsToWriteOver cX0_monthsToWriteOver 1 (some .int), Cond.fieldLink RX0 15 "Usewise$Lease" "life" "I", Cond.methodLink RX0 24 Lib.Math.max.name, Cond.static Lib.Math.max.name, Cond.code Lib.Math.max.name Lib.Math.max.code 2 (some .int)]
def wsX1_pass : List Cond := .code yX1_pass cX1_pass 7 (some .int) :: ((wsX1_pass_r1 ++ wsX1_pass_r2) ++ wsX10 ++ wsX00 ++ (vx_atS RX1 115 "java/lang/IllegalArgumentException" ["java/lang/RuntimeException", "java/lang/Exception"]).filter goodWord)
def wsX1_leaseOf : List Cond := .code yX1_leaseOf cX1_leaseOf 3 (some (.object "Usewise$Lease")) :: ([.classLink RX1 79 "java/lang/IndexOutOfBoundsException", .initialized "java/lang/IndexOutOfBoundsException", .fieldLink RX1 11 "Usewise" "leases" "[LUsewise$Lease;"] ++ wsX10 ++ (vx_atS RX1 83 "java/lang/IndexOutOfBoundsException" ["java/lang/RuntimeException", "java/lang/Exception"]).filter goodWord)
def wsX1_mustGoOn : List Cond := .code yX1_mustGoOn cX1_mustGoOn 1 none :: ([.classLink RX1 23 "java/lang/IllegalStateException", .initialized "java/lang/IllegalStateException", .methodLink RX1 67 yX0_monthsLeft, .instanceMethod yX0_monthsLeft, .selects RX0 yX0_monthsLeft yX0_monthsLeft, .initialized RX0, .code yX0_monthsLeft cX0_monthsLeft 1 (some .int), .fieldLink RX0 27 "Usewise$Lease" "term" "I", .fieldLink RX0 48 "Usewise$Lease" "past" "I"] ++ wsX00 ++ (vx_atS RX1 27 "java/lang/IllegalStateException" ["java/lang/RuntimeException", "java/lang/Exception"]).filter goodWord)
def wsX1_review_r1 : List Cond := [Cond.classLink RX1 23 "java/lang/IllegalStateException", Cond.initialized "java/lang/IllegalStateException", Cond.methodLink RX1 37 yX1_leaseOf, Cond.instanceMethod yX1_leaseOf, Cond.selects RX1 yX1_leaseOf yX1_leaseOf, Cond.initialized RX1, Cond.code yX1_leaseOf cX1_leaseOf 3 (some (.object "Usewise$Lease")), Cond.classLink RX1 79 "java/lang/IndexOutOfBoundsException", Cond.initialized "java/lang/IndexOutOfBoundsException", Cond.fieldLink RX1 11 "Usewise" "leases" "[LUsewise$Lease;", Cond.methodLink RX1 19 yX1_mustBeWithin, Cond.static yX1_mustBeWithin, Cond.code yX1_mustBeWithin cX1_mustBeWithin 3 none, Cond.classLink RX1 111 "java/lang/IllegalArgumentException", Cond.initialized "java/lang/IllegalArgumentException", Cond.methodLink RX1 41 yX1_mustGoOn, Cond.static yX1_mustGoOn, Cond.code yX1_mustGoOn cX1_mustGoOn 1 none, Cond.methodLink RX1 67 yX0_monthsLeft, Cond.instanceMethod yX0_monthsLeft, Cond.selects RX0 yX0_monthsLeft yX0_monthsLeft, Cond.initialized RX0, Cond.code yX0_monthsLeft cX0_monthsLeft 1 (some .int), Cond.fieldLink RX0 27 "Usewise$Lease" "term" "I"]
def wsX1_review_r2 : List Cond := [Cond.fieldLink RX0 48 "Usewise$Lease" "past" "I", Cond.methodLink RX1 45 yX0_wouldPassTheMost, Cond.instanceMethod yX0_wouldPassTheMost, Cond.selects RX0 yX0_wouldPassTheMost yX0_wouldPassTheMost, Cond.code yX0_wouldPassTheMost cX0_wouldPassTheMost 3 (some .boolean), Cond.fieldLink RX0 30 "Usewise$Lease" "payments" "[I", Cond.constantLong RX0 55 (1000000), Cond.methodLink RX0 75 yX0_percentOf, Cond.static yX0_percentOf, Cond.code yX0_percentOf cX0_percentOf 3 (some .long), Cond.constantLong RX0 89 (100), Cond.methodLink RX1 50 yX0_reviewPayments, Cond.instanceMethod yX0_reviewPayments, Cond.selects RX0 yX0_reviewPayments yX0_reviewPayments, Cond.code yX0_reviewPayments cX0_reviewPayments 2 none, Cond.methodLink RX0 78 yX0_scalePayments, Cond.instanceMethod yX0_scalePayments, Cond.selects RX0 yX0_scalePayments yX0_scalePayments, Cond.code yX0_scalePayments cX0_scalePayments 3 none, Cond.methodLink RX0 82 yX0_followDebt, Cond.instanceMethod yX0_followDebt, Cond.selects RX0 yX0_followDebt yX0_followDebt, Cond.code yX0_followDebt cX0_followDebt 3 none, Cond.fieldLink RX0 44 "Usewise$Lease" "right" "J"]
def wsX1_review_r3 : List Cond := [Cond.fieldLink RX0 91 "Usewise$Lease" "gains" "J", Cond.methodLink RX0 40 yX0_debtNow, Cond.instanceMethod yX0_debtNow, Cond.selects RX0 yX0_debtNow yX0_debtNow, Cond.code yX0_debtNow cX0_debtNow 1 (some .int), Cond.fieldLink RX0 34 "Usewise$Lease" "debts" "[I", Cond.methodLink RX0 37 yX0_layDebts, Cond.instanceMethod yX0_layDebts, Cond.selects RX0 yX0_layDebts yX0_layDebts, Cond.code yX0_layDebts cX0_layDebts 2 none, Cond.fieldLink RX0 9 "Usewise$Lease" "rate" "I", Cond.methodLink RX0 51 yX0_worthBefore, Cond.static yX0_worthBefore, Cond.code yX0_worthBefore cX0_worthBefore 5 (some .long), Cond.methodLink RX1 54 yX0_debtNow]
def wsX1_review : List Cond := .code yX1_review cX1_review 4 (some .int) :: ((wsX1_review_r1 ++ (wsX1_review_r2 ++ wsX1_review_r3)) ++ wsX10 ++ wsX00 ++ (vx_atS RX1 27 "java/lang/IllegalStateException" ["java/lang/RuntimeException", "java/lang/Exception"]).filter goodWord ++ (vx_atS RX1 83 "java/lang/IndexOutOfBoundsException" ["java/lang/RuntimeException", "java/lang/Exception"]).filter goodWord ++ (vx_atS RX1 115 "java/lang/IllegalArgumentException" ["java/lang/RuntimeException", "java/lang/Exception"]).filter goodWord)
def wsX1_lengthen_r1 : List Cond := [Cond.classLink RX1 23 "java/lang/IllegalStateException", Cond.initialized "java/lang/IllegalStateException", Cond.methodLink RX1 37 yX1_leaseOf, Cond.instanceMethod yX1_leaseOf, Cond.selects RX1 yX1_leaseOf yX1_leaseOf, Cond.initialized RX1, Cond.code yX1_leaseOf cX1_leaseOf 3 (some (.object "Usewise$Lease")), Cond.classLink RX1 79 "java/lang/IndexOutOfBoundsException", Cond.initialized "java/lang/IndexOutOfBoundsException", Cond.fieldLink RX1 11 "Usewise" "leases" "[LUsewise$Lease;", Cond.methodLink RX1 19 yX1_mustBeWithin, Cond.static yX1_mustBeWithin, Cond.code yX1_mustBeWithin cX1_mustBeWithin 3 none, Cond.classLink RX1 111 "java/lang/IllegalArgumentException", Cond.initialized "java/lang/IllegalArgumentException", Cond.methodLink RX1 41 yX1_mustGoOn, Cond.static yX1_mustGoOn, Cond.code yX1_mustGoOn cX1_mustGoOn 1 none, Cond.methodLink RX1 67 yX0_monthsLeft, Cond.instanceMethod yX0_monthsLeft, Cond.selects RX0 yX0_monthsLeft yX0_monthsLeft, Cond.initialized RX0, Cond.code yX0_monthsLeft cX0_monthsLeft 1 (some .int), Cond.fieldLink RX0 27 "Usewise$Lease" "term" "I"]
def wsX1_lengthen_r2 : List Cond := [Cond.fieldLink RX0 48 "Usewise$Lease" "past" "I", Cond.methodLink RX1 58 yX0_hasRoomFor, Cond.instanceMethod yX0_hasRoomFor, Cond.selects RX0 yX0_hasRoomFor yX0_hasRoomFor, Cond.code yX0_hasRoomFor cX0_hasRoomFor 2 (some .boolean), Cond.methodLink RX1 63 yX0_putBehind, Cond.instanceMethod yX0_putBehind, Cond.selects RX0 yX0_putBehind yX0_putBehind, Cond.code yX0_putBehind cX0_putBehind 5 none, Cond.methodLink RX0 18 Lib.Math.min.name, Cond.static Lib.Math.min.name, Cond.initialized "java/lang/Math", Cond.code Lib.Math.min.name Lib.Math.min.code 2 (some .int), Cond.fieldLink RX0 30 "Usewise$Lease" "payments" "[I", Cond.methodLink RX0 82 yX0_followDebt, Cond.instanceMethod yX0_followDebt, Cond.selects RX0 yX0_followDebt yX0_followDebt, Cond.code yX0_followDebt cX0_followDebt 3 none, Cond.fieldLink RX0 44 "Usewise$Lease" "right" "J", Cond.fieldLink RX0 91 "Usewise$Lease" "gains" "J", Cond.methodLink RX0 40 yX0_debtNow, Cond.instanceMethod yX0_debtNow, Cond.selects RX0 yX0_debtNow yX0_debtNow, Cond.code yX0_debtNow cX0_debtNow 1 (some .int)]
def wsX1_lengthen_r3 : List Cond := [Cond.fieldLink RX0 34 "Usewise$Lease" "debts" "[I", Cond.methodLink RX0 37 yX0_layDebts, Cond.instanceMethod yX0_layDebts, Cond.selects RX0 yX0_layDebts yX0_layDebts, Cond.code yX0_layDebts cX0_layDebts 2 none, Cond.fieldLink RX0 9 "Usewise$Lease" "rate" "I", Cond.methodLink RX0 51 yX0_worthBefore, Cond.static yX0_worthBefore, Cond.code yX0_worthBefore cX0_worthBefore 5 (some .long), Cond.constantLong RX0 55 (1000000), Cond.methodLink RX1 54 yX0_debtNow]
def wsX1_lengthen : List Cond := .code yX1_lengthen cX1_lengthen 5 (some .int) :: ((wsX1_lengthen_r1 ++ (wsX1_lengthen_r2 ++ wsX1_lengthen_r3)) ++ wsX10 ++ wsX00 ++ (vx_atS RX1 27 "java/lang/IllegalStateException" ["java/lang/RuntimeException", "java/lang/Exception"]).filter goodWord ++ (vx_atS RX1 83 "java/lang/IndexOutOfBoundsException" ["java/lang/RuntimeException", "java/lang/Exception"]).filter goodWord ++ (vx_atS RX1 115 "java/lang/IllegalArgumentException" ["java/lang/RuntimeException", "java/lang/Exception"]).filter goodWord)
def wsX1_shorten_r1 : List Cond := [Cond.classLink RX1 23 "java/lang/IllegalStateException", Cond.initialized "java/lang/IllegalStateException", Cond.methodLink RX1 37 yX1_leaseOf, Cond.instanceMethod yX1_leaseOf, Cond.selects RX1 yX1_leaseOf yX1_leaseOf, Cond.initialized RX1, Cond.code yX1_leaseOf cX1_leaseOf 3 (some (.object "Usewise$Lease")), Cond.classLink RX1 79 "java/lang/IndexOutOfBoundsException", Cond.initialized "java/lang/IndexOutOfBoundsException", Cond.fieldLink RX1 11 "Usewise" "leases" "[LUsewise$Lease;", Cond.methodLink RX1 19 yX1_mustBeWithin, Cond.static yX1_mustBeWithin, Cond.code yX1_mustBeWithin cX1_mustBeWithin 3 none, Cond.classLink RX1 111 "java/lang/IllegalArgumentException", Cond.initialized "java/lang/IllegalArgumentException", Cond.methodLink RX1 67 yX0_monthsLeft, Cond.instanceMethod yX0_monthsLeft, Cond.selects RX0 yX0_monthsLeft yX0_monthsLeft, Cond.initialized RX0, Cond.code yX0_monthsLeft cX0_monthsLeft 1 (some .int), Cond.fieldLink RX0 27 "Usewise$Lease" "term" "I", Cond.fieldLink RX0 48 "Usewise$Lease" "past" "I", Cond.methodLink RX1 72 yX0_takeOffTheEnd, Cond.instanceMethod yX0_takeOffTheEnd]
def wsX1_shorten_r2 : List Cond := [Cond.selects RX0 yX0_takeOffTheEnd yX0_takeOffTheEnd, Cond.code yX0_takeOffTheEnd cX0_takeOffTheEnd 3 (some .int), Cond.fieldLink RX0 44 "Usewise$Lease" "right" "J", Cond.methodLink RX0 57 yX0_monthsLeft, Cond.methodLink RX0 85 yX0_giveUp, Cond.instanceMethod yX0_giveUp, Cond.selects RX0 yX0_giveUp yX0_giveUp, Cond.code yX0_giveUp cX0_giveUp 7 (some .int), Cond.fieldLink RX0 91 "Usewise$Lease" "gains" "J", Cond.methodLink RX0 40 yX0_debtNow, Cond.instanceMethod yX0_debtNow, Cond.selects RX0 yX0_debtNow yX0_debtNow, Cond.code yX0_debtNow cX0_debtNow 1 (some .int), Cond.fieldLink RX0 34 "Usewise$Lease" "debts" "[I", Cond.methodLink RX0 37 yX0_layDebts, Cond.instanceMethod yX0_layDebts, Cond.selects RX0 yX0_layDebts yX0_layDebts, Cond.code yX0_layDebts cX0_layDebts 2 none, Cond.fieldLink RX0 30 "Usewise$Lease" "payments" "[I", Cond.fieldLink RX0 9 "Usewise$Lease" "rate" "I", Cond.methodLink RX0 51 yX0_worthBefore, Cond.static yX0_worthBefore, Cond.code yX0_worthBefore cX0_worthBefore 5 (some .long), Cond.constantLong RX0 55 (1000000)]
def wsX1_shorten : List Cond := .code yX1_shorten cX1_shorten 4 (some .int) :: ((wsX1_shorten_r1 ++ wsX1_shorten_r2) ++ wsX10 ++ wsX00 ++ (vx_atS RX1 27 "java/lang/IllegalStateException" ["java/lang/RuntimeException", "java/lang/Exception"]).filter goodWord ++ (vx_atS RX1 83 "java/lang/IndexOutOfBoundsException" ["java/lang/RuntimeException", "java/lang/Exception"]).filter goodWord ++ (vx_atS RX1 115 "java/lang/IllegalArgumentException" ["java/lang/RuntimeException", "java/lang/Exception"]).filter goodWord)
def wsX1_cut_r1 : List Cond := [Cond.methodLink RX1 37 yX1_leaseOf, Cond.instanceMethod yX1_leaseOf, Cond.selects RX1 yX1_leaseOf yX1_leaseOf, Cond.initialized RX1, Cond.code yX1_leaseOf cX1_leaseOf 3 (some (.object "Usewise$Lease")), Cond.classLink RX1 79 "java/lang/IndexOutOfBoundsException", Cond.initialized "java/lang/IndexOutOfBoundsException", Cond.fieldLink RX1 11 "Usewise" "leases" "[LUsewise$Lease;", Cond.methodLink RX1 19 yX1_mustBeWithin, Cond.static yX1_mustBeWithin, Cond.code yX1_mustBeWithin cX1_mustBeWithin 3 none, Cond.classLink RX1 111 "java/lang/IllegalArgumentException", Cond.initialized "java/lang/IllegalArgumentException", Cond.methodLink RX1 41 yX1_mustGoOn, Cond.static yX1_mustGoOn, Cond.code yX1_mustGoOn cX1_mustGoOn 1 none, Cond.classLink RX1 23 "java/lang/IllegalStateException", Cond.initialized "java/lang/IllegalStateException", Cond.methodLink RX1 67 yX0_monthsLeft, Cond.instanceMethod yX0_monthsLeft, Cond.selects RX0 yX0_monthsLeft yX0_monthsLeft, Cond.initialized RX0, Cond.code yX0_monthsLeft cX0_monthsLeft 1 (some .int), Cond.fieldLink RX0 27 "Usewise$Lease" "term" "I"]
def wsX1_cut_r2 : List Cond := [Cond.fieldLink RX0 48 "Usewise$Lease" "past" "I", Cond.methodLink RX1 76 yX0_keepPart, Cond.instanceMethod yX0_keepPart, Cond.selects RX0 yX0_keepPart yX0_keepPart, Cond.code yX0_keepPart cX0_keepPart 2 (some .int), Cond.fieldLink RX0 44 "Usewise$Lease" "right" "J", Cond.methodLink RX0 78 yX0_scalePayments, Cond.instanceMethod yX0_scalePayments, Cond.selects RX0 yX0_scalePayments yX0_scalePayments, Cond.code yX0_scalePayments cX0_scalePayments 3 none, Cond.fieldLink RX0 30 "Usewise$Lease" "payments" "[I", Cond.methodLink RX0 75 yX0_percentOf, Cond.static yX0_percentOf, Cond.code yX0_percentOf cX0_percentOf 3 (some .long), Cond.constantLong RX0 89 (100), Cond.methodLink RX0 85 yX0_giveUp, Cond.instanceMethod yX0_giveUp, Cond.selects RX0 yX0_giveUp yX0_giveUp, Cond.code yX0_giveUp cX0_giveUp 7 (some .int), Cond.fieldLink RX0 91 "Usewise$Lease" "gains" "J", Cond.methodLink RX0 40 yX0_debtNow, Cond.instanceMethod yX0_debtNow, Cond.selects RX0 yX0_debtNow yX0_debtNow, Cond.code yX0_debtNow cX0_debtNow 1 (some .int)]
def wsX1_cut_r3 : List Cond := [Cond.fieldLink RX0 34 "Usewise$Lease" "debts" "[I", Cond.methodLink RX0 37 yX0_layDebts, Cond.instanceMethod yX0_layDebts, Cond.selects RX0 yX0_layDebts yX0_layDebts, Cond.code yX0_layDebts cX0_layDebts 2 none, Cond.fieldLink RX0 9 "Usewise$Lease" "rate" "I", Cond.methodLink RX0 51 yX0_worthBefore, Cond.static yX0_worthBefore, Cond.code yX0_worthBefore cX0_worthBefore 5 (some .long), Cond.constantLong RX0 55 (1000000)]
def wsX1_cut : List Cond := .code yX1_cut cX1_cut 4 (some .int) :: ((wsX1_cut_r1 ++ (wsX1_cut_r2 ++ wsX1_cut_r3)) ++ wsX10 ++ wsX00 ++ (vx_atS RX1 83 "java/lang/IndexOutOfBoundsException" ["java/lang/RuntimeException", "java/lang/Exception"]).filter goodWord ++ (vx_atS RX1 115 "java/lang/IllegalArgumentException" ["java/lang/RuntimeException", "java/lang/Exception"]).filter goodWord ++ (vx_atS RX1 27 "java/lang/IllegalStateException" ["java/lang/RuntimeException", "java/lang/Exception"]).filter goodWord)
def wsX1_toCome : List Cond := .code yX1_toCome cX1_toCome 2 (some .int) :: ([.methodLink RX1 37 yX1_leaseOf, .instanceMethod yX1_leaseOf, .selects RX1 yX1_leaseOf yX1_leaseOf, .initialized RX1, .code yX1_leaseOf cX1_leaseOf 3 (some (.object "Usewise$Lease")), .classLink RX1 79 "java/lang/IndexOutOfBoundsException", .initialized "java/lang/IndexOutOfBoundsException", .fieldLink RX1 11 "Usewise" "leases" "[LUsewise$Lease;", .methodLink RX1 67 yX0_monthsLeft, .instanceMethod yX0_monthsLeft, .selects RX0 yX0_monthsLeft yX0_monthsLeft, .initialized RX0, .code yX0_monthsLeft cX0_monthsLeft 1 (some .int), .fieldLink RX0 27 "Usewise$Lease" "term" "I", .fieldLink RX0 48 "Usewise$Lease" "past" "I"] ++ wsX10 ++ wsX00 ++ (vx_atS RX1 83 "java/lang/IndexOutOfBoundsException" ["java/lang/RuntimeException", "java/lang/Exception"]).filter goodWord)
def wsX1_payment : List Cond := .code yX1_payment cX1_payment 4 (some .int) :: ([.classLink RX1 79 "java/lang/IndexOutOfBoundsException", .initialized "java/lang/IndexOutOfBoundsException", .methodLink RX1 37 yX1_leaseOf, .instanceMethod yX1_leaseOf, .selects RX1 yX1_leaseOf yX1_leaseOf, .initialized RX1, .code yX1_leaseOf cX1_leaseOf 3 (some (.object "Usewise$Lease")), .fieldLink RX1 11 "Usewise" "leases" "[LUsewise$Lease;", .methodLink RX1 67 yX0_monthsLeft, .instanceMethod yX0_monthsLeft, .selects RX0 yX0_monthsLeft yX0_monthsLeft, .initialized RX0, .code yX0_monthsLeft cX0_monthsLeft 1 (some .int), .fieldLink RX0 27 "Usewise$Lease" "term" "I", .fieldLink RX0 48 "Usewise$Lease" "past" "I", .methodLink RX1 84 yX0_paymentIn, .instanceMethod yX0_paymentIn, .selects RX0 yX0_paymentIn yX0_paymentIn, .code yX0_paymentIn cX0_paymentIn 2 (some .int), .fieldLink RX0 30 "Usewise$Lease" "payments" "[I"] ++ wsX10 ++ wsX00 ++ (vx_atS RX1 83 "java/lang/IndexOutOfBoundsException" ["java/lang/RuntimeException", "java/lang/Exception"]).filter goodWord)
def wsX1_debt : List Cond := .code yX1_debt cX1_debt 2 (some .int) :: ([.methodLink RX1 37 yX1_leaseOf, .instanceMethod yX1_leaseOf, .selects RX1 yX1_leaseOf yX1_leaseOf, .initialized RX1, .code yX1_leaseOf cX1_leaseOf 3 (some (.object "Usewise$Lease")), .classLink RX1 79 "java/lang/IndexOutOfBoundsException", .initialized "java/lang/IndexOutOfBoundsException", .fieldLink RX1 11 "Usewise" "leases" "[LUsewise$Lease;", .methodLink RX1 54 yX0_debtNow, .instanceMethod yX0_debtNow, .selects RX0 yX0_debtNow yX0_debtNow, .initialized RX0, .code yX0_debtNow cX0_debtNow 1 (some .int), .fieldLink RX0 34 "Usewise$Lease" "debts" "[I", .fieldLink RX0 48 "Usewise$Lease" "past" "I"] ++ wsX10 ++ wsX00 ++ (vx_atS RX1 83 "java/lang/IndexOutOfBoundsException" ["java/lang/RuntimeException", "java/lang/Exception"]).filter goodWord)
def wsX1_debtByWorth : List Cond := .code yX1_debtByWorth cX1_debtByWorth 3 (some .int) :: ([.methodLink RX1 37 yX1_leaseOf, .instanceMethod yX1_leaseOf, .selects RX1 yX1_leaseOf yX1_leaseOf, .initialized RX1, .code yX1_leaseOf cX1_leaseOf 3 (some (.object "Usewise$Lease")), .classLink RX1 79 "java/lang/IndexOutOfBoundsException", .initialized "java/lang/IndexOutOfBoundsException", .fieldLink RX1 11 "Usewise" "leases" "[LUsewise$Lease;", .methodLink RX1 90 yX0_worthAt, .instanceMethod yX0_worthAt, .selects RX0 yX0_worthAt yX0_worthAt, .initialized RX0, .code yX0_worthAt cX0_worthAt 5 (some .long), .fieldLink RX0 27 "Usewise$Lease" "term" "I", .fieldLink RX0 48 "Usewise$Lease" "past" "I", .fieldLink RX0 30 "Usewise$Lease" "payments" "[I", .methodLink RX0 51 yX0_worthBefore, .static yX0_worthBefore, .code yX0_worthBefore cX0_worthBefore 5 (some .long), .constantLong RX0 55 (1000000)] ++ wsX00 ++ wsX10 ++ (vx_atS RX1 83 "java/lang/IndexOutOfBoundsException" ["java/lang/RuntimeException", "java/lang/Exception"]).filter goodWord)
def wsX1_right : List Cond := .code yX1_right cX1_right 2 (some .int) :: ([.methodLink RX1 37 yX1_leaseOf, .instanceMethod yX1_leaseOf, .selects RX1 yX1_leaseOf yX1_leaseOf, .initialized RX1, .code yX1_leaseOf cX1_leaseOf 3 (some (.object "Usewise$Lease")), .classLink RX1 79 "java/lang/IndexOutOfBoundsException", .initialized "java/lang/IndexOutOfBoundsException", .fieldLink RX1 11 "Usewise" "leases" "[LUsewise$Lease;"] ++ wsX00 ++ wsX10 ++ (vx_atS RX1 83 "java/lang/IndexOutOfBoundsException" ["java/lang/RuntimeException", "java/lang/Exception"]).filter goodWord)
def wsX1_interest : List Cond := .code yX1_interest cX1_interest 2 (some .int) :: ([.methodLink RX1 37 yX1_leaseOf, .instanceMethod yX1_leaseOf, .selects RX1 yX1_leaseOf yX1_leaseOf, .initialized RX1, .code yX1_leaseOf cX1_leaseOf 3 (some (.object "Usewise$Lease")), .classLink RX1 79 "java/lang/IndexOutOfBoundsException", .initialized "java/lang/IndexOutOfBoundsException", .fieldLink RX1 11 "Usewise" "leases" "[LUsewise$Lease;"] ++ wsX00 ++ wsX10 ++ (vx_atS RX1 83 "java/lang/IndexOutOfBoundsException" ["java/lang/RuntimeException", "java/lang/Exception"]).filter goodWord)
def wsX1_written : List Cond := .code yX1_written cX1_written 2 (some .int) :: ([.methodLink RX1 37 yX1_leaseOf, .instanceMethod yX1_leaseOf, .selects RX1 yX1_leaseOf yX1_leaseOf, .initialized RX1, .code yX1_leaseOf cX1_leaseOf 3 (some (.object "Usewise$Lease")), .classLink RX1 79 "java/lang/IndexOutOfBoundsException", .initialized "java/lang/IndexOutOfBoundsException", .fieldLink RX1 11 "Usewise" "leases" "[LUsewise$Lease;"] ++ wsX00 ++ wsX10 ++ (vx_atS RX1 83 "java/lang/IndexOutOfBoundsException" ["java/lang/RuntimeException", "java/lang/Exception"]).filter goodWord)
def wsX1_paid : List Cond := .code yX1_paid cX1_paid 2 (some .int) :: ([.methodLink RX1 37 yX1_leaseOf, .instanceMethod yX1_leaseOf, .selects RX1 yX1_leaseOf yX1_leaseOf, .initialized RX1, .code yX1_leaseOf cX1_leaseOf 3 (some (.object "Usewise$Lease")), .classLink RX1 79 "java/lang/IndexOutOfBoundsException", .initialized "java/lang/IndexOutOfBoundsException", .fieldLink RX1 11 "Usewise" "leases" "[LUsewise$Lease;"] ++ wsX00 ++ wsX10 ++ (vx_atS RX1 83 "java/lang/IndexOutOfBoundsException" ["java/lang/RuntimeException", "java/lang/Exception"]).filter goodWord)
def wsX1_gains : List Cond := .code yX1_gains cX1_gains 2 (some .int) :: ([.methodLink RX1 37 yX1_leaseOf, .instanceMethod yX1_leaseOf, .selects RX1 yX1_leaseOf yX1_leaseOf, .initialized RX1, .code yX1_leaseOf cX1_leaseOf 3 (some (.object "Usewise$Lease")), .classLink RX1 79 "java/lang/IndexOutOfBoundsException", .initialized "java/lang/IndexOutOfBoundsException", .fieldLink RX1 11 "Usewise" "leases" "[LUsewise$Lease;"] ++ wsX00 ++ wsX10 ++ (vx_atS RX1 83 "java/lang/IndexOutOfBoundsException" ["java/lang/RuntimeException", "java/lang/Exception"]).filter goodWord)
def wsX1_rateFor_r1 : List Cond := [Cond.constant RX1 110 (10000000), Cond.methodLink RX1 37 yX1_leaseOf, Cond.instanceMethod yX1_leaseOf, Cond.selects RX1 yX1_leaseOf yX1_leaseOf, Cond.initialized RX1, Cond.code yX1_leaseOf cX1_leaseOf 3 (some (.object "Usewise$Lease")), Cond.classLink RX1 79 "java/lang/IndexOutOfBoundsException", Cond.initialized "java/lang/IndexOutOfBoundsException", Cond.fieldLink RX1 11 "Usewise" "leases" "[LUsewise$Lease;", Cond.methodLink RX1 19 yX1_mustBeWithin, Cond.static yX1_mustBeWithin, Cond.code yX1_mustBeWithin cX1_mustBeWithin 3 none, Cond.classLink RX1 111 "java/lang/IllegalArgumentException", Cond.initialized "java/lang/IllegalArgumentException", Cond.methodLink RX1 90 yX0_worthAt, Cond.instanceMethod yX0_worthAt, Cond.selects RX0 yX0_worthAt yX0_worthAt, Cond.initialized RX0, Cond.code yX0_worthAt cX0_worthAt 5 (some .long), Cond.fieldLink RX0 27 "Usewise$Lease" "term" "I", Cond.fieldLink RX0 48 "Usewise$Lease" "past" "I", Cond.fieldLink RX0 30 "Usewise$Lease" "payments" "[I", Cond.methodLink RX0 51 yX0_worthBefore, Cond.static yX0_worthBefore]
def wsX1_rateFor_r2 : List Cond := [Cond.code yX0_worthBefore cX0_worthBefore 5 (some .long), Cond.constantLong RX0 55 (1000000)]
def wsX1_rateFor : List Cond := .code yX1_rateFor cX1_rateFor 8 (some .int) :: ((wsX1_rateFor_r1 ++ wsX1_rateFor_r2) ++ wsX10 ++ wsX00 ++ (vx_atS RX1 83 "java/lang/IndexOutOfBoundsException" ["java/lang/RuntimeException", "java/lang/Exception"]).filter goodWord ++ (vx_atS RX1 115 "java/lang/IllegalArgumentException" ["java/lang/RuntimeException", "java/lang/Exception"]).filter goodWord)
def wsX1_saleGain : List Cond := .code yX1_saleGain cX1_saleGain 7 (some .int) :: ([.constant RX1 110 (10000000), .methodLink RX1 37 yX1_leaseOf, .instanceMethod yX1_leaseOf, .selects RX1 yX1_leaseOf yX1_leaseOf, .initialized RX1, .code yX1_leaseOf cX1_leaseOf 3 (some (.object "Usewise$Lease")), .classLink RX1 79 "java/lang/IndexOutOfBoundsException", .initialized "java/lang/IndexOutOfBoundsException", .fieldLink RX1 11 "Usewise" "leases" "[LUsewise$Lease;", .methodLink RX1 19 yX1_mustBeWithin, .static yX1_mustBeWithin, .code yX1_mustBeWithin cX1_mustBeWithin 3 none, .classLink RX1 111 "java/lang/IllegalArgumentException", .initialized "java/lang/IllegalArgumentException", .methodLink RX1 54 yX0_debtNow, .instanceMethod yX0_debtNow, .selects RX0 yX0_debtNow yX0_debtNow, .initialized RX0, .code yX0_debtNow cX0_debtNow 1 (some .int), .fieldLink RX0 34 "Usewise$Lease" "debts" "[I", .fieldLink RX0 48 "Usewise$Lease" "past" "I"] ++ wsX10 ++ wsX00 ++ (vx_atS RX1 83 "java/lang/IndexOutOfBoundsException" ["java/lang/RuntimeException", "java/lang/Exception"]).filter goodWord ++ (vx_atS RX1 115 "java/lang/IllegalArgumentException" ["java/lang/RuntimeException", "java/lang/Exception"]).filter goodWord)
def wsX2_init : List Cond := .code yX2_init cX2_init 1 none :: ([.methodLink RX2 1 objectInit, .instanceMethod objectInit, .code objectInit ⟨#[0xb1]⟩ 1 none, .arrayClass .int, .fieldLink RX2 7 "UsewiseModel" "payments" "[I", .fieldLink RX2 13 "UsewiseModel" "months" "[I", .fieldLink RX2 16 "UsewiseModel" "past" "[I", .fieldLink RX2 19 "UsewiseModel" "rate" "[I", .fieldLink RX2 22 "UsewiseModel" "life" "[I", .fieldLink RX2 25 "UsewiseModel" "debt" "[I", .fieldLink RX2 28 "UsewiseModel" "right" "[I", .fieldLink RX2 31 "UsewiseModel" "interest" "[I", .fieldLink RX2 34 "UsewiseModel" "written" "[I", .fieldLink RX2 37 "UsewiseModel" "paid" "[I", .fieldLink RX2 40 "UsewiseModel" "gains" "[I"] ++ wsX20)
def wsX2_thrown : List Cond := .code yX2_thrown cX2_thrown 1 (some .int) :: ([.fieldLink RX2 43 "UsewiseModel" "thrown" "I"] ++ wsX20)
def wsX2_fails : List Cond := .code yX2_fails cX2_fails 2 (some .int) :: ([.fieldLink RX2 43 "UsewiseModel" "thrown" "I"] ++ wsX20)
def wsX2_in : List Cond := .code yX2_in cX2_in 3 (some .boolean) :: ([])
def wsX2_isNoLease : List Cond := .code yX2_isNoLease cX2_isNoLease 2 (some .boolean) :: ([.fieldLink RX2 47 "UsewiseModel" "leases" "I", .methodLink RX2 50 yX2_in, .static yX2_in, .initialized RX2, .code yX2_in cX2_in 3 (some .boolean)] ++ wsX20)
def wsX2_left : List Cond := .code yX2_left cX2_left 2 (some .int) :: ([.fieldLink RX2 13 "UsewiseModel" "months" "[I", .fieldLink RX2 16 "UsewiseModel" "past" "[I"] ++ wsX20)
def wsX2_worth : List Cond := .code yX2_worth cX2_worth 9 (some .int) :: ([.constantLong RX2 54 (1000000), .fieldLink RX2 13 "UsewiseModel" "months" "[I", .fieldLink RX2 7 "UsewiseModel" "payments" "[I"] ++ wsX20)
def wsX2_worthNow : List Cond := .code yX2_worthNow cX2_worthNow 2 (some .int) :: ([.fieldLink RX2 16 "UsewiseModel" "past" "[I", .fieldLink RX2 19 "UsewiseModel" "rate" "[I", .methodLink RX2 56 yX2_worth, .instanceMethod yX2_worth, .selects RX2 yX2_worth yX2_worth, .initialized RX2, .code yX2_worth cX2_worth 9 (some .int), .constantLong RX2 54 (1000000), .fieldLink RX2 13 "UsewiseModel" "months" "[I", .fieldLink RX2 7 "UsewiseModel" "payments" "[I"] ++ wsX20)
def wsX2_add_r1 : List Cond := [Cond.fieldLink RX2 43 "UsewiseModel" "thrown" "I", Cond.fieldLink RX2 47 "UsewiseModel" "leases" "I", Cond.fieldLink RX2 13 "UsewiseModel" "months" "[I", Cond.fieldLink RX2 19 "UsewiseModel" "rate" "[I", Cond.fieldLink RX2 22 "UsewiseModel" "life" "[I", Cond.fieldLink RX2 7 "UsewiseModel" "payments" "[I", Cond.fieldLink RX2 25 "UsewiseModel" "debt" "[I", Cond.fieldLink RX2 28 "UsewiseModel" "right" "[I", Cond.methodLink RX2 50 yX2_in, Cond.static yX2_in, Cond.initialized RX2, Cond.code yX2_in cX2_in 3 (some .boolean), Cond.methodLink RX2 60 yX2_fails, Cond.instanceMethod yX2_fails, Cond.selects RX2 yX2_fails yX2_fails, Cond.code yX2_fails cX2_fails 2 (some .int), Cond.methodLink RX2 64 yX2_worthNow, Cond.instanceMethod yX2_worthNow, Cond.selects RX2 yX2_worthNow yX2_worthNow, Cond.code yX2_worthNow cX2_worthNow 2 (some .int), Cond.fieldLink RX2 16 "UsewiseModel" "past" "[I", Cond.methodLink RX2 56 yX2_worth, Cond.instanceMethod yX2_worth, Cond.selects RX2 yX2_worth yX2_worth]
def wsX2_add_r2 : List Cond := [Cond.code yX2_worth cX2_worth 9 (some .int), Cond.constantLong RX2 54 (1000000)]
def wsX2_add : List Cond := .code yX2_add cX2_add 11 (some .int) :: ((wsX2_add_r1 ++ wsX2_add_r2) ++ wsX20)
def wsX2_month : List Cond := .code yX2_month cX2_month 8 none :: ([.fieldLink RX2 7 "UsewiseModel" "payments" "[I", .fieldLink RX2 16 "UsewiseModel" "past" "[I", .fieldLink RX2 22 "UsewiseModel" "life" "[I", .fieldLink RX2 28 "UsewiseModel" "right" "[I", .fieldLink RX2 19 "UsewiseModel" "rate" "[I", .fieldLink RX2 31 "UsewiseModel" "interest" "[I", .fieldLink RX2 25 "UsewiseModel" "debt" "[I", .fieldLink RX2 37 "UsewiseModel" "paid" "[I", .fieldLink RX2 34 "UsewiseModel" "written" "[I", .methodLink RX2 67 yX2_left, .instanceMethod yX2_left, .selects RX2 yX2_left yX2_left, .initialized RX2, .code yX2_left cX2_left 2 (some .int), .fieldLink RX2 13 "UsewiseModel" "months" "[I", .methodLink RX2 56 yX2_worth, .instanceMethod yX2_worth, .selects RX2 yX2_worth yX2_worth, .code yX2_worth cX2_worth 9 (some .int), .constantLong RX2 54 (1000000)] ++ wsX20)
def wsX2_pass_r1 : List Cond := [Cond.fieldLink RX2 43 "UsewiseModel" "thrown" "I", Cond.fieldLink RX2 47 "UsewiseModel" "leases" "I", Cond.methodLink RX2 50 yX2_in, Cond.static yX2_in, Cond.initialized RX2, Cond.code yX2_in cX2_in 3 (some .boolean), Cond.methodLink RX2 60 yX2_fails, Cond.instanceMethod yX2_fails, Cond.selects RX2 yX2_fails yX2_fails, Cond.code yX2_fails cX2_fails 2 (some .int), Cond.methodLink RX2 67 yX2_left, Cond.instanceMethod yX2_left, Cond.selects RX2 yX2_left yX2_left, Cond.code yX2_left cX2_left 2 (some .int), Cond.fieldLink RX2 13 "UsewiseModel" "months" "[I", Cond.fieldLink RX2 16 "UsewiseModel" "past" "[I", Cond.methodLink RX2 70 yX2_month, Cond.instanceMethod yX2_month, Cond.selects RX2 yX2_month yX2_month, Cond.code yX2_month cX2_month 8 none, Cond.fieldLink RX2 7 "UsewiseModel" "payments" "[I", Cond.fieldLink RX2 22 "UsewiseModel" "life" "[I", Cond.fieldLink RX2 28 "UsewiseModel" "right" "[I", Cond.fieldLink RX2 19 "UsewiseModel" "rate" "[I"]
def wsX2_pass_r2 : List Cond := [Cond.fieldLink RX2 31 "UsewiseModel" "interest" "[I", Cond.fieldLink RX2 25 "UsewiseModel" "debt" "[I", Cond.fieldLink RX2 37 "UsewiseModel" "paid" "[I", Cond.fieldLink RX2 34 "UsewiseModel" "written" "[I", Cond.methodLink RX2 56 yX2_worth, Cond.instanceMethod yX2_worth, Cond.selects RX2 yX2_worth yX2_worth, Cond.code yX2_worth cX2_worth 9 (some .int), Cond.constantLong RX2 54 (1000000)]
def wsX2_pass : List Cond := .code yX2_pass cX2_pass 6 (some .int) :: ((wsX2_pass_r1 ++ wsX2_pass_r2) ++ wsX20)
def wsX2_laidAgain : List Cond := .code yX2_laidAgain cX2_laidAgain 3 (some .int) :: ([.fieldLink RX2 28 "UsewiseModel" "right" "[I", .fieldLink RX2 25 "UsewiseModel" "debt" "[I", .fieldLink RX2 40 "UsewiseModel" "gains" "[I", .methodLink RX2 64 yX2_worthNow, .instanceMethod yX2_worthNow, .selects RX2 yX2_worthNow yX2_worthNow, .initialized RX2, .code yX2_worthNow cX2_worthNow 2 (some .int), .fieldLink RX2 16 "UsewiseModel" "past" "[I", .fieldLink RX2 19 "UsewiseModel" "rate" "[I", .methodLink RX2 56 yX2_worth, .instanceMethod yX2_worth, .selects RX2 yX2_worth yX2_worth, .code yX2_worth cX2_worth 9 (some .int), .constantLong RX2 54 (1000000), .fieldLink RX2 13 "UsewiseModel" "months" "[I", .fieldLink RX2 7 "UsewiseModel" "payments" "[I"] ++ wsX20)
def wsX2_review_r1 : List Cond := [Cond.fieldLink RX2 43 "UsewiseModel" "thrown" "I", Cond.fieldLink RX2 16 "UsewiseModel" "past" "[I", Cond.fieldLink RX2 13 "UsewiseModel" "months" "[I", Cond.fieldLink RX2 7 "UsewiseModel" "payments" "[I", Cond.constantLong RX2 78 (100), Cond.constantLong RX2 54 (1000000), Cond.methodLink RX2 74 yX2_isNoLease, Cond.instanceMethod yX2_isNoLease, Cond.selects RX2 yX2_isNoLease yX2_isNoLease, Cond.initialized RX2, Cond.code yX2_isNoLease cX2_isNoLease 2 (some .boolean), Cond.fieldLink RX2 47 "UsewiseModel" "leases" "I", Cond.methodLink RX2 50 yX2_in, Cond.static yX2_in, Cond.code yX2_in cX2_in 3 (some .boolean), Cond.methodLink RX2 60 yX2_fails, Cond.instanceMethod yX2_fails, Cond.selects RX2 yX2_fails yX2_fails, Cond.code yX2_fails cX2_fails 2 (some .int), Cond.methodLink RX2 67 yX2_left, Cond.instanceMethod yX2_left, Cond.selects RX2 yX2_left yX2_left, Cond.code yX2_left cX2_left 2 (some .int), Cond.methodLink RX2 80 yX2_laidAgain]
def wsX2_review_r2 : List Cond := [Cond.instanceMethod yX2_laidAgain, Cond.selects RX2 yX2_laidAgain yX2_laidAgain, Cond.code yX2_laidAgain cX2_laidAgain 3 (some .int), Cond.fieldLink RX2 28 "UsewiseModel" "right" "[I", Cond.fieldLink RX2 25 "UsewiseModel" "debt" "[I", Cond.fieldLink RX2 40 "UsewiseModel" "gains" "[I", Cond.methodLink RX2 64 yX2_worthNow, Cond.instanceMethod yX2_worthNow, Cond.selects RX2 yX2_worthNow yX2_worthNow, Cond.code yX2_worthNow cX2_worthNow 2 (some .int), Cond.fieldLink RX2 19 "UsewiseModel" "rate" "[I", Cond.methodLink RX2 56 yX2_worth, Cond.instanceMethod yX2_worth, Cond.selects RX2 yX2_worth yX2_worth, Cond.code yX2_worth cX2_worth 9 (some .int)]
def wsX2_review : List Cond := .code yX2_review cX2_review 5 (some .int) :: ((wsX2_review_r1 ++ wsX2_review_r2) ++ wsX20)
def wsX2_lengthen_r1 : List Cond := [Cond.fieldLink RX2 43 "UsewiseModel" "thrown" "I", Cond.fieldLink RX2 13 "UsewiseModel" "months" "[I", Cond.fieldLink RX2 7 "UsewiseModel" "payments" "[I", Cond.methodLink RX2 74 yX2_isNoLease, Cond.instanceMethod yX2_isNoLease, Cond.selects RX2 yX2_isNoLease yX2_isNoLease, Cond.initialized RX2, Cond.code yX2_isNoLease cX2_isNoLease 2 (some .boolean), Cond.fieldLink RX2 47 "UsewiseModel" "leases" "I", Cond.methodLink RX2 50 yX2_in, Cond.static yX2_in, Cond.code yX2_in cX2_in 3 (some .boolean), Cond.methodLink RX2 60 yX2_fails, Cond.instanceMethod yX2_fails, Cond.selects RX2 yX2_fails yX2_fails, Cond.code yX2_fails cX2_fails 2 (some .int), Cond.methodLink RX2 67 yX2_left, Cond.instanceMethod yX2_left, Cond.selects RX2 yX2_left yX2_left, Cond.code yX2_left cX2_left 2 (some .int), Cond.fieldLink RX2 16 "UsewiseModel" "past" "[I", Cond.methodLink RX2 80 yX2_laidAgain, Cond.instanceMethod yX2_laidAgain, Cond.selects RX2 yX2_laidAgain yX2_laidAgain]
def wsX2_lengthen_r2 : List Cond := [Cond.code yX2_laidAgain cX2_laidAgain 3 (some .int), Cond.fieldLink RX2 28 "UsewiseModel" "right" "[I", Cond.fieldLink RX2 25 "UsewiseModel" "debt" "[I", Cond.fieldLink RX2 40 "UsewiseModel" "gains" "[I", Cond.methodLink RX2 64 yX2_worthNow, Cond.instanceMethod yX2_worthNow, Cond.selects RX2 yX2_worthNow yX2_worthNow, Cond.code yX2_worthNow cX2_worthNow 2 (some .int), Cond.fieldLink RX2 19 "UsewiseModel" "rate" "[I", Cond.methodLink RX2 56 yX2_worth, Cond.instanceMethod yX2_worth, Cond.selects RX2 yX2_worth yX2_worth, Cond.code yX2_worth cX2_worth 9 (some .int), Cond.constantLong RX2 54 (1000000)]
def wsX2_lengthen : List Cond := .code yX2_lengthen cX2_lengthen 5 (some .int) :: ((wsX2_lengthen_r1 ++ wsX2_lengthen_r2) ++ wsX20)
def wsX2_givenUp : List Cond := .code yX2_givenUp cX2_givenUp 5 (some .int) :: ([.fieldLink RX2 25 "UsewiseModel" "debt" "[I", .fieldLink RX2 28 "UsewiseModel" "right" "[I", .fieldLink RX2 40 "UsewiseModel" "gains" "[I", .methodLink RX2 64 yX2_worthNow, .instanceMethod yX2_worthNow, .selects RX2 yX2_worthNow yX2_worthNow, .initialized RX2, .code yX2_worthNow cX2_worthNow 2 (some .int), .fieldLink RX2 16 "UsewiseModel" "past" "[I", .fieldLink RX2 19 "UsewiseModel" "rate" "[I", .methodLink RX2 56 yX2_worth, .instanceMethod yX2_worth, .selects RX2 yX2_worth yX2_worth, .code yX2_worth cX2_worth 9 (some .int), .constantLong RX2 54 (1000000), .fieldLink RX2 13 "UsewiseModel" "months" "[I", .fieldLink RX2 7 "UsewiseModel" "payments" "[I"] ++ wsX20)
def wsX2_shorten_r1 : List Cond := [Cond.fieldLink RX2 43 "UsewiseModel" "thrown" "I", Cond.fieldLink RX2 13 "UsewiseModel" "months" "[I", Cond.fieldLink RX2 28 "UsewiseModel" "right" "[I", Cond.methodLink RX2 74 yX2_isNoLease, Cond.instanceMethod yX2_isNoLease, Cond.selects RX2 yX2_isNoLease yX2_isNoLease, Cond.initialized RX2, Cond.code yX2_isNoLease cX2_isNoLease 2 (some .boolean), Cond.fieldLink RX2 47 "UsewiseModel" "leases" "I", Cond.methodLink RX2 50 yX2_in, Cond.static yX2_in, Cond.code yX2_in cX2_in 3 (some .boolean), Cond.methodLink RX2 60 yX2_fails, Cond.instanceMethod yX2_fails, Cond.selects RX2 yX2_fails yX2_fails, Cond.code yX2_fails cX2_fails 2 (some .int), Cond.methodLink RX2 67 yX2_left, Cond.instanceMethod yX2_left, Cond.selects RX2 yX2_left yX2_left, Cond.code yX2_left cX2_left 2 (some .int), Cond.fieldLink RX2 16 "UsewiseModel" "past" "[I", Cond.methodLink RX2 83 yX2_givenUp, Cond.instanceMethod yX2_givenUp, Cond.selects RX2 yX2_givenUp yX2_givenUp]
def wsX2_shorten_r2 : List Cond := [Cond.code yX2_givenUp cX2_givenUp 5 (some .int), Cond.fieldLink RX2 25 "UsewiseModel" "debt" "[I", Cond.fieldLink RX2 40 "UsewiseModel" "gains" "[I", Cond.methodLink RX2 64 yX2_worthNow, Cond.instanceMethod yX2_worthNow, Cond.selects RX2 yX2_worthNow yX2_worthNow, Cond.code yX2_worthNow cX2_worthNow 2 (some .int), Cond.fieldLink RX2 19 "UsewiseModel" "rate" "[I", Cond.methodLink RX2 56 yX2_worth, Cond.instanceMethod yX2_worth, Cond.selects RX2 yX2_worth yX2_worth, Cond.code yX2_worth cX2_worth 9 (some .int), Cond.constantLong RX2 54 (1000000), Cond.fieldLink RX2 7 "UsewiseModel" "payments" "[I"]
def wsX2_shorten : List Cond := .code yX2_shorten cX2_shorten 4 (some .int) :: ((wsX2_shorten_r1 ++ wsX2_shorten_r2) ++ wsX20)
def wsX2_cut_r1 : List Cond := [Cond.fieldLink RX2 43 "UsewiseModel" "thrown" "I", Cond.fieldLink RX2 16 "UsewiseModel" "past" "[I", Cond.fieldLink RX2 13 "UsewiseModel" "months" "[I", Cond.fieldLink RX2 7 "UsewiseModel" "payments" "[I", Cond.constantLong RX2 78 (100), Cond.fieldLink RX2 28 "UsewiseModel" "right" "[I", Cond.methodLink RX2 74 yX2_isNoLease, Cond.instanceMethod yX2_isNoLease, Cond.selects RX2 yX2_isNoLease yX2_isNoLease, Cond.initialized RX2, Cond.code yX2_isNoLease cX2_isNoLease 2 (some .boolean), Cond.fieldLink RX2 47 "UsewiseModel" "leases" "I", Cond.methodLink RX2 50 yX2_in, Cond.static yX2_in, Cond.code yX2_in cX2_in 3 (some .boolean), Cond.methodLink RX2 60 yX2_fails, Cond.instanceMethod yX2_fails, Cond.selects RX2 yX2_fails yX2_fails, Cond.code yX2_fails cX2_fails 2 (some .int), Cond.methodLink RX2 67 yX2_left, Cond.instanceMethod yX2_left, Cond.selects RX2 yX2_left yX2_left, Cond.code yX2_left cX2_left 2 (some .int), Cond.methodLink RX2 83 yX2_givenUp]
def wsX2_cut_r2 : List Cond := [Cond.instanceMethod yX2_givenUp, Cond.selects RX2 yX2_givenUp yX2_givenUp, Cond.code yX2_givenUp cX2_givenUp 5 (some .int), Cond.fieldLink RX2 25 "UsewiseModel" "debt" "[I", Cond.fieldLink RX2 40 "UsewiseModel" "gains" "[I", Cond.methodLink RX2 64 yX2_worthNow, Cond.instanceMethod yX2_worthNow, Cond.selects RX2 yX2_worthNow yX2_worthNow, Cond.code yX2_worthNow cX2_worthNow 2 (some .int), Cond.fieldLink RX2 19 "UsewiseModel" "rate" "[I", Cond.methodLink RX2 56 yX2_worth, Cond.instanceMethod yX2_worth, Cond.selects RX2 yX2_worth yX2_worth, Cond.code yX2_worth cX2_worth 9 (some .int), Cond.constantLong RX2 54 (1000000)]
def wsX2_cut : List Cond := .code yX2_cut cX2_cut 4 (some .int) :: ((wsX2_cut_r1 ++ wsX2_cut_r2) ++ wsX20)
def wsX2_toCome : List Cond := .code yX2_toCome cX2_toCome 2 (some .int) :: ([.fieldLink RX2 43 "UsewiseModel" "thrown" "I", .methodLink RX2 74 yX2_isNoLease, .instanceMethod yX2_isNoLease, .selects RX2 yX2_isNoLease yX2_isNoLease, .initialized RX2, .code yX2_isNoLease cX2_isNoLease 2 (some .boolean), .fieldLink RX2 47 "UsewiseModel" "leases" "I", .methodLink RX2 50 yX2_in, .static yX2_in, .code yX2_in cX2_in 3 (some .boolean), .methodLink RX2 60 yX2_fails, .instanceMethod yX2_fails, .selects RX2 yX2_fails yX2_fails, .code yX2_fails cX2_fails 2 (some .int), .methodLink RX2 67 yX2_left, .instanceMethod yX2_left, .selects RX2 yX2_left yX2_left, .code yX2_left cX2_left 2 (some .int), .fieldLink RX2 13 "UsewiseModel" "months" "[I", .fieldLink RX2 16 "UsewiseModel" "past" "[I"] ++ wsX20)
def wsX2_payment : List Cond := .code yX2_payment cX2_payment 3 (some .int) :: ([.fieldLink RX2 43 "UsewiseModel" "thrown" "I", .fieldLink RX2 7 "UsewiseModel" "payments" "[I", .fieldLink RX2 16 "UsewiseModel" "past" "[I", .methodLink RX2 74 yX2_isNoLease, .instanceMethod yX2_isNoLease, .selects RX2 yX2_isNoLease yX2_isNoLease, .initialized RX2, .code yX2_isNoLease cX2_isNoLease 2 (some .boolean), .fieldLink RX2 47 "UsewiseModel" "leases" "I", .methodLink RX2 50 yX2_in, .static yX2_in, .code yX2_in cX2_in 3 (some .boolean), .methodLink RX2 67 yX2_left, .instanceMethod yX2_left, .selects RX2 yX2_left yX2_left, .code yX2_left cX2_left 2 (some .int), .fieldLink RX2 13 "UsewiseModel" "months" "[I", .methodLink RX2 60 yX2_fails, .instanceMethod yX2_fails, .selects RX2 yX2_fails yX2_fails, .code yX2_fails cX2_fails 2 (some .int)] ++ wsX20)
def wsX2_debt : List Cond := .code yX2_debt cX2_debt 2 (some .int) :: ([.fieldLink RX2 43 "UsewiseModel" "thrown" "I", .fieldLink RX2 25 "UsewiseModel" "debt" "[I", .methodLink RX2 74 yX2_isNoLease, .instanceMethod yX2_isNoLease, .selects RX2 yX2_isNoLease yX2_isNoLease, .initialized RX2, .code yX2_isNoLease cX2_isNoLease 2 (some .boolean), .fieldLink RX2 47 "UsewiseModel" "leases" "I", .methodLink RX2 50 yX2_in, .static yX2_in, .code yX2_in cX2_in 3 (some .boolean), .methodLink RX2 60 yX2_fails, .instanceMethod yX2_fails, .selects RX2 yX2_fails yX2_fails, .code yX2_fails cX2_fails 2 (some .int)] ++ wsX20)
def wsX2_debtByWorth_r1 : List Cond := [Cond.fieldLink RX2 43 "UsewiseModel" "thrown" "I", Cond.methodLink RX2 74 yX2_isNoLease, Cond.instanceMethod yX2_isNoLease, Cond.selects RX2 yX2_isNoLease yX2_isNoLease, Cond.initialized RX2, Cond.code yX2_isNoLease cX2_isNoLease 2 (some .boolean), Cond.fieldLink RX2 47 "UsewiseModel" "leases" "I", Cond.methodLink RX2 50 yX2_in, Cond.static yX2_in, Cond.code yX2_in cX2_in 3 (some .boolean), Cond.methodLink RX2 60 yX2_fails, Cond.instanceMethod yX2_fails, Cond.selects RX2 yX2_fails yX2_fails, Cond.code yX2_fails cX2_fails 2 (some .int), Cond.methodLink RX2 64 yX2_worthNow, Cond.instanceMethod yX2_worthNow, Cond.selects RX2 yX2_worthNow yX2_worthNow, Cond.code yX2_worthNow cX2_worthNow 2 (some .int), Cond.fieldLink RX2 16 "UsewiseModel" "past" "[I", Cond.fieldLink RX2 19 "UsewiseModel" "rate" "[I", Cond.methodLink RX2 56 yX2_worth, Cond.instanceMethod yX2_worth, Cond.selects RX2 yX2_worth yX2_worth, Cond.code yX2_worth cX2_worth 9 (some .int)]
def wsX2_debtByWorth_r2 : List Cond := [Cond.constantLong RX2 54 (1000000), Cond.fieldLink RX2 13 "UsewiseModel" "months" "[I", Cond.fieldLink RX2 7 "UsewiseModel" "payments" "[I"]
def wsX2_debtByWorth : List Cond := .code yX2_debtByWorth cX2_debtByWorth 2 (some .int) :: ((wsX2_debtByWorth_r1 ++ wsX2_debtByWorth_r2) ++ wsX20)
def wsX2_right : List Cond := .code yX2_right cX2_right 2 (some .int) :: ([.fieldLink RX2 43 "UsewiseModel" "thrown" "I", .fieldLink RX2 28 "UsewiseModel" "right" "[I", .methodLink RX2 74 yX2_isNoLease, .instanceMethod yX2_isNoLease, .selects RX2 yX2_isNoLease yX2_isNoLease, .initialized RX2, .code yX2_isNoLease cX2_isNoLease 2 (some .boolean), .fieldLink RX2 47 "UsewiseModel" "leases" "I", .methodLink RX2 50 yX2_in, .static yX2_in, .code yX2_in cX2_in 3 (some .boolean), .methodLink RX2 60 yX2_fails, .instanceMethod yX2_fails, .selects RX2 yX2_fails yX2_fails, .code yX2_fails cX2_fails 2 (some .int)] ++ wsX20)
def wsX2_interest : List Cond := .code yX2_interest cX2_interest 2 (some .int) :: ([.fieldLink RX2 43 "UsewiseModel" "thrown" "I", .fieldLink RX2 31 "UsewiseModel" "interest" "[I", .methodLink RX2 74 yX2_isNoLease, .instanceMethod yX2_isNoLease, .selects RX2 yX2_isNoLease yX2_isNoLease, .initialized RX2, .code yX2_isNoLease cX2_isNoLease 2 (some .boolean), .fieldLink RX2 47 "UsewiseModel" "leases" "I", .methodLink RX2 50 yX2_in, .static yX2_in, .code yX2_in cX2_in 3 (some .boolean), .methodLink RX2 60 yX2_fails, .instanceMethod yX2_fails, .selects RX2 yX2_fails yX2_fails, .code yX2_fails cX2_fails 2 (some .int)] ++ wsX20)
def wsX2_written : List Cond := .code yX2_written cX2_written 2 (some .int) :: ([.fieldLink RX2 43 "UsewiseModel" "thrown" "I", .fieldLink RX2 34 "UsewiseModel" "written" "[I", .methodLink RX2 74 yX2_isNoLease, .instanceMethod yX2_isNoLease, .selects RX2 yX2_isNoLease yX2_isNoLease, .initialized RX2, .code yX2_isNoLease cX2_isNoLease 2 (some .boolean), .fieldLink RX2 47 "UsewiseModel" "leases" "I", .methodLink RX2 50 yX2_in, .static yX2_in, .code yX2_in cX2_in 3 (some .boolean), .methodLink RX2 60 yX2_fails, .instanceMethod yX2_fails, .selects RX2 yX2_fails yX2_fails, .code yX2_fails cX2_fails 2 (some .int)] ++ wsX20)
def wsX2_paid : List Cond := .code yX2_paid cX2_paid 2 (some .int) :: ([.fieldLink RX2 43 "UsewiseModel" "thrown" "I", .fieldLink RX2 37 "UsewiseModel" "paid" "[I", .methodLink RX2 74 yX2_isNoLease, .instanceMethod yX2_isNoLease, .selects RX2 yX2_isNoLease yX2_isNoLease, .initialized RX2, .code yX2_isNoLease cX2_isNoLease 2 (some .boolean), .fieldLink RX2 47 "UsewiseModel" "leases" "I", .methodLink RX2 50 yX2_in, .static yX2_in, .code yX2_in cX2_in 3 (some .boolean), .methodLink RX2 60 yX2_fails, .instanceMethod yX2_fails, .selects RX2 yX2_fails yX2_fails, .code yX2_fails cX2_fails 2 (some .int)] ++ wsX20)
def wsX2_gains : List Cond := .code yX2_gains cX2_gains 2 (some .int) :: ([.fieldLink RX2 43 "UsewiseModel" "thrown" "I", .fieldLink RX2 40 "UsewiseModel" "gains" "[I", .methodLink RX2 74 yX2_isNoLease, .instanceMethod yX2_isNoLease, .selects RX2 yX2_isNoLease yX2_isNoLease, .initialized RX2, .code yX2_isNoLease cX2_isNoLease 2 (some .boolean), .fieldLink RX2 47 "UsewiseModel" "leases" "I", .methodLink RX2 50 yX2_in, .static yX2_in, .code yX2_in cX2_in 3 (some .boolean), .methodLink RX2 60 yX2_fails, .instanceMethod yX2_fails, .selects RX2 yX2_fails yX2_fails, .code yX2_fails cX2_fails 2 (some .int)] ++ wsX20)
def wsX2_rateFor : List Cond := .code yX2_rateFor cX2_rateFor 6 (some .int) :: ([.fieldLink RX2 43 "UsewiseModel" "thrown" "I", .constant RX2 87 (10000000), .fieldLink RX2 16 "UsewiseModel" "past" "[I", .methodLink RX2 74 yX2_isNoLease, .instanceMethod yX2_isNoLease, .selects RX2 yX2_isNoLease yX2_isNoLease, .initialized RX2, .code yX2_isNoLease cX2_isNoLease 2 (some .boolean), .fieldLink RX2 47 "UsewiseModel" "leases" "I", .methodLink RX2 50 yX2_in, .static yX2_in, .code yX2_in cX2_in 3 (some .boolean), .methodLink RX2 60 yX2_fails, .instanceMethod yX2_fails, .selects RX2 yX2_fails yX2_fails, .code yX2_fails cX2_fails 2 (some .int), .methodLink RX2 56 yX2_worth, .instanceMethod yX2_worth, .selects RX2 yX2_worth yX2_worth, .code yX2_worth cX2_worth 9 (some .int), .constantLong RX2 54 (1000000), .fieldLink RX2 13 "UsewiseModel" "months" "[I", .fieldLink RX2 7 "UsewiseModel" "payments" "[I"] ++ wsX20)
def wsX2_saleGain : List Cond := .code yX2_saleGain cX2_saleGain 4 (some .int) :: ([.fieldLink RX2 43 "UsewiseModel" "thrown" "I", .constant RX2 87 (10000000), .fieldLink RX2 25 "UsewiseModel" "debt" "[I", .methodLink RX2 74 yX2_isNoLease, .instanceMethod yX2_isNoLease, .selects RX2 yX2_isNoLease yX2_isNoLease, .initialized RX2, .code yX2_isNoLease cX2_isNoLease 2 (some .boolean), .fieldLink RX2 47 "UsewiseModel" "leases" "I", .methodLink RX2 50 yX2_in, .static yX2_in, .code yX2_in cX2_in 3 (some .boolean), .methodLink RX2 60 yX2_fails, .instanceMethod yX2_fails, .selects RX2 yX2_fails yX2_fails, .code yX2_fails cX2_fails 2 (some .int)] ++ wsX20)
def wsJ9_max_7cf53 : List Cond := .code yJ9_max_7cf53 cJ9_max_7cf53 2 (some .int) :: ([])
def wsJ9_min_7cf53 : List Cond := .code yJ9_min_7cf53 cJ9_min_7cf53 2 (some .int) :: ([])
def wsL_add_r1 : List Cond := [Cond.classLink RL 13 "java/lang/IllegalArgumentException", Cond.classLink RL 15 "java/lang/IllegalStateException", Cond.methodLink RL 7 yX1_add, Cond.instanceMethod yX1_add, Cond.selects RX1 yX1_add yX1_add, Cond.initialized RX1, Cond.code yX1_add cX1_add 9 (some .int), Cond.classLink RX1 23 "java/lang/IllegalStateException", Cond.initialized "java/lang/IllegalStateException", Cond.fieldLink RX1 15 "Usewise" "count" "I", Cond.fieldLink RX1 11 "Usewise" "leases" "[LUsewise$Lease;", Cond.classLink RX1 9 RX0, Cond.instantiable RX0 11, Cond.initialized RX0, Cond.methodLink RX1 19 yX1_mustBeWithin, Cond.static yX1_mustBeWithin, Cond.code yX1_mustBeWithin cX1_mustBeWithin 3 none, Cond.classLink RX1 111 "java/lang/IllegalArgumentException", Cond.initialized "java/lang/IllegalArgumentException", Cond.methodLink RX1 30 yX0_init, Cond.instanceMethod yX0_init, Cond.code yX0_init cX0_init 9 none, Cond.methodLink RX0 3 objectInit, Cond.instanceMethod objectInit]
def wsL_add_r2 : List Cond := [Cond.code objectInit ⟨#[0xb1]⟩ 1 none, Cond.fieldLink RX0 9 "Usewise$Lease" "rate" "I", Cond.fieldLink RX0 15 "Usewise$Lease" "life" "I", Cond.methodLink RX0 18 Lib.Math.min.name, Cond.static Lib.Math.min.name, Cond.initialized "java/lang/Math", Cond.code Lib.Math.min.name Lib.Math.min.code 2 (some .int), Cond.methodLink RX0 24 Lib.Math.max.name, Cond.static Lib.Math.max.name, Cond.code Lib.Math.max.name Lib.Math.max.code 2 (some .int), Cond.fieldLink RX0 27 "Usewise$Lease" "term" "I", Cond.arrayClass .int, Cond.fieldLink RX0 30 "Usewise$Lease" "payments" "[I", Cond.fieldLink RX0 34 "Usewise$Lease" "debts" "[I", Cond.fieldLink RX0 44 "Usewise$Lease" "right" "J", Cond.methodLink RX0 37 yX0_layDebts, Cond.instanceMethod yX0_layDebts, Cond.selects RX0 yX0_layDebts yX0_layDebts, Cond.code yX0_layDebts cX0_layDebts 2 none, Cond.fieldLink RX0 48 "Usewise$Lease" "past" "I", Cond.methodLink RX0 51 yX0_worthBefore, Cond.static yX0_worthBefore, Cond.code yX0_worthBefore cX0_worthBefore 5 (some .long), Cond.constantLong RX0 55 (1000000)]
def wsL_add_r3 : List Cond := [Cond.methodLink RX0 40 yX0_debtNow, Cond.instanceMethod yX0_debtNow, Cond.selects RX0 yX0_debtNow yX0_debtNow, Cond.code yX0_debtNow cX0_debtNow 1 (some .int)]
def wsL_add : List Cond := .codeWith yL_add cL_add 10 (some .int) [(0, 20, 23, 13), (0, 20, 27, 15)] :: ((wsL_add_r1 ++ (wsL_add_r2 ++ wsL_add_r3)) ++ wsX10 ++ wsX00 ++ (vx_atS RX1 27 "java/lang/IllegalStateException" ["java/lang/RuntimeException", "java/lang/Exception"]).filter goodWord ++ (vx_atS RX1 115 "java/lang/IllegalArgumentException" ["java/lang/RuntimeException", "java/lang/Exception"]).filter goodWord)
def wsL_pass_r1 : List Cond := [Cond.classLink RL 13 "java/lang/IllegalArgumentException", Cond.methodLink RL 17 yX1_pass, Cond.instanceMethod yX1_pass, Cond.selects RX1 yX1_pass yX1_pass, Cond.initialized RX1, Cond.code yX1_pass cX1_pass 7 (some .int), Cond.fieldLink RX1 11 "Usewise" "leases" "[LUsewise$Lease;", Cond.methodLink RX1 19 yX1_mustBeWithin, Cond.static yX1_mustBeWithin, Cond.code yX1_mustBeWithin cX1_mustBeWithin 3 none, Cond.classLink RX1 111 "java/lang/IllegalArgumentException", Cond.initialized "java/lang/IllegalArgumentException", Cond.methodLink RX1 33 yX0_endsWithin, Cond.instanceMethod yX0_endsWithin, Cond.selects RX0 yX0_endsWithin yX0_endsWithin, Cond.initialized RX0, Cond.code yX0_endsWithin cX0_endsWithin 4 (some .boolean), Cond.methodLink RX0 18 Lib.Math.min.name, Cond.static Lib.Math.min.name, Cond.initialized "java/lang/Math", Cond.code Lib.Math.min.name Lib.Math.min.code 2 (some .int), Cond.methodLink RX0 57 yX0_monthsLeft, Cond.instanceMethod yX0_monthsLeft, Cond.selects RX0 yX0_monthsLeft yX0_monthsLeft]
def wsL_pass_r2 : List Cond := [Cond.code yX0_monthsLeft cX0_monthsLeft 1 (some .int), Cond.fieldLink RX0 27 "Usewise$Lease" "term" "I", Cond.fieldLink RX0 48 "Usewise$Lease" "past" "I", Cond.methodLink RX0 60 yX0_passOneMonth, Cond.instanceMethod yX0_passOneMonth, Cond.selects RX0 yX0_passOneMonth yX0_passOneMonth, Cond.code yX0_passOneMonth cX0_passOneMonth 4 none, Cond.fieldLink RX0 30 "Usewise$Lease" "payments" "[I", Cond.fieldLink RX0 63 "Usewise$Lease" "interest" "J", Cond.fieldLink RX0 34 "Usewise$Lease" "debts" "[I", Cond.fieldLink RX0 66 "Usewise$Lease" "paid" "J", Cond.fieldLink RX0 44 "Usewise$Lease" "right" "J", Cond.fieldLink RX0 72 "Usewise$Lease" "written" "J", Cond.methodLink RX0 69 yX0_monthsToWriteOver, Cond.instanceMethod yX0_monthsToWriteOver, Cond.selects RX0 yX0_monthsToWriteOver yX0_monthsToWriteOver, Cond.code yX0_monthsToWriteOver cX0_monthsToWriteOver 1 (some .int), Cond.fieldLink RX0 15 "Usewise$Lease" "life" "I", Cond.methodLink RX0 24 Lib.Math.max.name, Cond.static Lib.Math.max.name, Cond.code Lib.Math.max.name Lib.Math.max.code 2 (some .int)]
def wsL_pass : List Cond := .codeWith yL_pass cL_pass 4 (some .int) [(0, 9, 12, 13)] :: ((wsL_pass_r1 ++ wsL_pass_r2) ++ wsX10 ++ wsX00 ++ (vx_atS RX1 115 "java/lang/IllegalArgumentException" ["java/lang/RuntimeException", "java/lang/Exception"]).filter goodWord)
def wsL_review_r1 : List Cond := [Cond.classLink RL 25 "java/lang/IndexOutOfBoundsException", Cond.classLink RL 13 "java/lang/IllegalArgumentException", Cond.classLink RL 15 "java/lang/IllegalStateException", Cond.methodLink RL 21 yX1_review, Cond.instanceMethod yX1_review, Cond.selects RX1 yX1_review yX1_review, Cond.initialized RX1, Cond.code yX1_review cX1_review 4 (some .int), Cond.classLink RX1 23 "java/lang/IllegalStateException", Cond.initialized "java/lang/IllegalStateException", Cond.methodLink RX1 37 yX1_leaseOf, Cond.instanceMethod yX1_leaseOf, Cond.selects RX1 yX1_leaseOf yX1_leaseOf, Cond.code yX1_leaseOf cX1_leaseOf 3 (some (.object "Usewise$Lease")), Cond.classLink RX1 79 "java/lang/IndexOutOfBoundsException", Cond.initialized "java/lang/IndexOutOfBoundsException", Cond.fieldLink RX1 11 "Usewise" "leases" "[LUsewise$Lease;", Cond.methodLink RX1 19 yX1_mustBeWithin, Cond.static yX1_mustBeWithin, Cond.code yX1_mustBeWithin cX1_mustBeWithin 3 none, Cond.classLink RX1 111 "java/lang/IllegalArgumentException", Cond.initialized "java/lang/IllegalArgumentException", Cond.methodLink RX1 41 yX1_mustGoOn, Cond.static yX1_mustGoOn]
def wsL_review_r2 : List Cond := [Cond.code yX1_mustGoOn cX1_mustGoOn 1 none, Cond.methodLink RX1 67 yX0_monthsLeft, Cond.instanceMethod yX0_monthsLeft, Cond.selects RX0 yX0_monthsLeft yX0_monthsLeft, Cond.initialized RX0, Cond.code yX0_monthsLeft cX0_monthsLeft 1 (some .int), Cond.fieldLink RX0 27 "Usewise$Lease" "term" "I", Cond.fieldLink RX0 48 "Usewise$Lease" "past" "I", Cond.methodLink RX1 45 yX0_wouldPassTheMost, Cond.instanceMethod yX0_wouldPassTheMost, Cond.selects RX0 yX0_wouldPassTheMost yX0_wouldPassTheMost, Cond.code yX0_wouldPassTheMost cX0_wouldPassTheMost 3 (some .boolean), Cond.fieldLink RX0 30 "Usewise$Lease" "payments" "[I", Cond.constantLong RX0 55 (1000000), Cond.methodLink RX0 75 yX0_percentOf, Cond.static yX0_percentOf, Cond.code yX0_percentOf cX0_percentOf 3 (some .long), Cond.constantLong RX0 89 (100), Cond.methodLink RX1 50 yX0_reviewPayments, Cond.instanceMethod yX0_reviewPayments, Cond.selects RX0 yX0_reviewPayments yX0_reviewPayments, Cond.code yX0_reviewPayments cX0_reviewPayments 2 none, Cond.methodLink RX0 78 yX0_scalePayments, Cond.instanceMethod yX0_scalePayments]
def wsL_review_r3 : List Cond := [Cond.selects RX0 yX0_scalePayments yX0_scalePayments, Cond.code yX0_scalePayments cX0_scalePayments 3 none, Cond.methodLink RX0 82 yX0_followDebt, Cond.instanceMethod yX0_followDebt, Cond.selects RX0 yX0_followDebt yX0_followDebt, Cond.code yX0_followDebt cX0_followDebt 3 none, Cond.fieldLink RX0 44 "Usewise$Lease" "right" "J", Cond.fieldLink RX0 91 "Usewise$Lease" "gains" "J", Cond.methodLink RX0 40 yX0_debtNow, Cond.instanceMethod yX0_debtNow, Cond.selects RX0 yX0_debtNow yX0_debtNow, Cond.code yX0_debtNow cX0_debtNow 1 (some .int), Cond.fieldLink RX0 34 "Usewise$Lease" "debts" "[I", Cond.methodLink RX0 37 yX0_layDebts, Cond.instanceMethod yX0_layDebts, Cond.selects RX0 yX0_layDebts yX0_layDebts, Cond.code yX0_layDebts cX0_layDebts 2 none, Cond.fieldLink RX0 9 "Usewise$Lease" "rate" "I", Cond.methodLink RX0 51 yX0_worthBefore, Cond.static yX0_worthBefore, Cond.code yX0_worthBefore cX0_worthBefore 5 (some .long), Cond.methodLink RX1 54 yX0_debtNow]
def wsL_review : List Cond := .codeWith yL_review cL_review 5 (some .int) [(0, 10, 13, 25), (0, 10, 17, 13), (0, 10, 21, 15)] :: ((wsL_review_r1 ++ (wsL_review_r2 ++ wsL_review_r3)) ++ wsX10 ++ wsX00 ++ (vx_atS RX1 27 "java/lang/IllegalStateException" ["java/lang/RuntimeException", "java/lang/Exception"]).filter goodWord ++ (vx_atS RX1 83 "java/lang/IndexOutOfBoundsException" ["java/lang/RuntimeException", "java/lang/Exception"]).filter goodWord ++ (vx_atS RX1 115 "java/lang/IllegalArgumentException" ["java/lang/RuntimeException", "java/lang/Exception"]).filter goodWord)
def wsL_lengthen_r1 : List Cond := [Cond.classLink RL 25 "java/lang/IndexOutOfBoundsException", Cond.classLink RL 13 "java/lang/IllegalArgumentException", Cond.classLink RL 15 "java/lang/IllegalStateException", Cond.methodLink RL 27 yX1_lengthen, Cond.instanceMethod yX1_lengthen, Cond.selects RX1 yX1_lengthen yX1_lengthen, Cond.initialized RX1, Cond.code yX1_lengthen cX1_lengthen 5 (some .int), Cond.classLink RX1 23 "java/lang/IllegalStateException", Cond.initialized "java/lang/IllegalStateException", Cond.methodLink RX1 37 yX1_leaseOf, Cond.instanceMethod yX1_leaseOf, Cond.selects RX1 yX1_leaseOf yX1_leaseOf, Cond.code yX1_leaseOf cX1_leaseOf 3 (some (.object "Usewise$Lease")), Cond.classLink RX1 79 "java/lang/IndexOutOfBoundsException", Cond.initialized "java/lang/IndexOutOfBoundsException", Cond.fieldLink RX1 11 "Usewise" "leases" "[LUsewise$Lease;", Cond.methodLink RX1 19 yX1_mustBeWithin, Cond.static yX1_mustBeWithin, Cond.code yX1_mustBeWithin cX1_mustBeWithin 3 none, Cond.classLink RX1 111 "java/lang/IllegalArgumentException", Cond.initialized "java/lang/IllegalArgumentException", Cond.methodLink RX1 41 yX1_mustGoOn, Cond.static yX1_mustGoOn]
def wsL_lengthen_r2 : List Cond := [Cond.code yX1_mustGoOn cX1_mustGoOn 1 none, Cond.methodLink RX1 67 yX0_monthsLeft, Cond.instanceMethod yX0_monthsLeft, Cond.selects RX0 yX0_monthsLeft yX0_monthsLeft, Cond.initialized RX0, Cond.code yX0_monthsLeft cX0_monthsLeft 1 (some .int), Cond.fieldLink RX0 27 "Usewise$Lease" "term" "I", Cond.fieldLink RX0 48 "Usewise$Lease" "past" "I", Cond.methodLink RX1 58 yX0_hasRoomFor, Cond.instanceMethod yX0_hasRoomFor, Cond.selects RX0 yX0_hasRoomFor yX0_hasRoomFor, Cond.code yX0_hasRoomFor cX0_hasRoomFor 2 (some .boolean), Cond.methodLink RX1 63 yX0_putBehind, Cond.instanceMethod yX0_putBehind, Cond.selects RX0 yX0_putBehind yX0_putBehind, Cond.code yX0_putBehind cX0_putBehind 5 none, Cond.methodLink RX0 18 Lib.Math.min.name, Cond.static Lib.Math.min.name, Cond.initialized "java/lang/Math", Cond.code Lib.Math.min.name Lib.Math.min.code 2 (some .int), Cond.fieldLink RX0 30 "Usewise$Lease" "payments" "[I", Cond.methodLink RX0 82 yX0_followDebt, Cond.instanceMethod yX0_followDebt, Cond.selects RX0 yX0_followDebt yX0_followDebt]
def wsL_lengthen_r3 : List Cond := [Cond.code yX0_followDebt cX0_followDebt 3 none, Cond.fieldLink RX0 44 "Usewise$Lease" "right" "J", Cond.fieldLink RX0 91 "Usewise$Lease" "gains" "J", Cond.methodLink RX0 40 yX0_debtNow, Cond.instanceMethod yX0_debtNow, Cond.selects RX0 yX0_debtNow yX0_debtNow, Cond.code yX0_debtNow cX0_debtNow 1 (some .int), Cond.fieldLink RX0 34 "Usewise$Lease" "debts" "[I", Cond.methodLink RX0 37 yX0_layDebts, Cond.instanceMethod yX0_layDebts, Cond.selects RX0 yX0_layDebts yX0_layDebts, Cond.code yX0_layDebts cX0_layDebts 2 none, Cond.fieldLink RX0 9 "Usewise$Lease" "rate" "I", Cond.methodLink RX0 51 yX0_worthBefore, Cond.static yX0_worthBefore, Cond.code yX0_worthBefore cX0_worthBefore 5 (some .long), Cond.constantLong RX0 55 (1000000), Cond.methodLink RX1 54 yX0_debtNow]
def wsL_lengthen : List Cond := .codeWith yL_lengthen cL_lengthen 6 (some .int) [(0, 12, 15, 25), (0, 12, 19, 13), (0, 12, 23, 15)] :: ((wsL_lengthen_r1 ++ (wsL_lengthen_r2 ++ wsL_lengthen_r3)) ++ wsX10 ++ wsX00 ++ (vx_atS RX1 27 "java/lang/IllegalStateException" ["java/lang/RuntimeException", "java/lang/Exception"]).filter goodWord ++ (vx_atS RX1 83 "java/lang/IndexOutOfBoundsException" ["java/lang/RuntimeException", "java/lang/Exception"]).filter goodWord ++ (vx_atS RX1 115 "java/lang/IllegalArgumentException" ["java/lang/RuntimeException", "java/lang/Exception"]).filter goodWord)
def wsL_shorten_r1 : List Cond := [Cond.classLink RL 25 "java/lang/IndexOutOfBoundsException", Cond.classLink RL 13 "java/lang/IllegalArgumentException", Cond.classLink RL 15 "java/lang/IllegalStateException", Cond.methodLink RL 31 yX1_shorten, Cond.instanceMethod yX1_shorten, Cond.selects RX1 yX1_shorten yX1_shorten, Cond.initialized RX1, Cond.code yX1_shorten cX1_shorten 4 (some .int), Cond.classLink RX1 23 "java/lang/IllegalStateException", Cond.initialized "java/lang/IllegalStateException", Cond.methodLink RX1 37 yX1_leaseOf, Cond.instanceMethod yX1_leaseOf, Cond.selects RX1 yX1_leaseOf yX1_leaseOf, Cond.code yX1_leaseOf cX1_leaseOf 3 (some (.object "Usewise$Lease")), Cond.classLink RX1 79 "java/lang/IndexOutOfBoundsException", Cond.initialized "java/lang/IndexOutOfBoundsException", Cond.fieldLink RX1 11 "Usewise" "leases" "[LUsewise$Lease;", Cond.methodLink RX1 19 yX1_mustBeWithin, Cond.static yX1_mustBeWithin, Cond.code yX1_mustBeWithin cX1_mustBeWithin 3 none, Cond.classLink RX1 111 "java/lang/IllegalArgumentException", Cond.initialized "java/lang/IllegalArgumentException", Cond.methodLink RX1 67 yX0_monthsLeft, Cond.instanceMethod yX0_monthsLeft]
def wsL_shorten_r2 : List Cond := [Cond.selects RX0 yX0_monthsLeft yX0_monthsLeft, Cond.initialized RX0, Cond.code yX0_monthsLeft cX0_monthsLeft 1 (some .int), Cond.fieldLink RX0 27 "Usewise$Lease" "term" "I", Cond.fieldLink RX0 48 "Usewise$Lease" "past" "I", Cond.methodLink RX1 72 yX0_takeOffTheEnd, Cond.instanceMethod yX0_takeOffTheEnd, Cond.selects RX0 yX0_takeOffTheEnd yX0_takeOffTheEnd, Cond.code yX0_takeOffTheEnd cX0_takeOffTheEnd 3 (some .int), Cond.fieldLink RX0 44 "Usewise$Lease" "right" "J", Cond.methodLink RX0 57 yX0_monthsLeft, Cond.methodLink RX0 85 yX0_giveUp, Cond.instanceMethod yX0_giveUp, Cond.selects RX0 yX0_giveUp yX0_giveUp, Cond.code yX0_giveUp cX0_giveUp 7 (some .int), Cond.fieldLink RX0 91 "Usewise$Lease" "gains" "J", Cond.methodLink RX0 40 yX0_debtNow, Cond.instanceMethod yX0_debtNow, Cond.selects RX0 yX0_debtNow yX0_debtNow, Cond.code yX0_debtNow cX0_debtNow 1 (some .int), Cond.fieldLink RX0 34 "Usewise$Lease" "debts" "[I", Cond.methodLink RX0 37 yX0_layDebts, Cond.instanceMethod yX0_layDebts, Cond.selects RX0 yX0_layDebts yX0_layDebts]
def wsL_shorten_r3 : List Cond := [Cond.code yX0_layDebts cX0_layDebts 2 none, Cond.fieldLink RX0 30 "Usewise$Lease" "payments" "[I", Cond.fieldLink RX0 9 "Usewise$Lease" "rate" "I", Cond.methodLink RX0 51 yX0_worthBefore, Cond.static yX0_worthBefore, Cond.code yX0_worthBefore cX0_worthBefore 5 (some .long), Cond.constantLong RX0 55 (1000000)]
def wsL_shorten : List Cond := .codeWith yL_shorten cL_shorten 5 (some .int) [(0, 10, 13, 25), (0, 10, 17, 13), (0, 10, 21, 15)] :: ((wsL_shorten_r1 ++ (wsL_shorten_r2 ++ wsL_shorten_r3)) ++ wsX10 ++ wsX00 ++ (vx_atS RX1 27 "java/lang/IllegalStateException" ["java/lang/RuntimeException", "java/lang/Exception"]).filter goodWord ++ (vx_atS RX1 83 "java/lang/IndexOutOfBoundsException" ["java/lang/RuntimeException", "java/lang/Exception"]).filter goodWord ++ (vx_atS RX1 115 "java/lang/IllegalArgumentException" ["java/lang/RuntimeException", "java/lang/Exception"]).filter goodWord)
def wsL_cut_r1 : List Cond := [Cond.classLink RL 25 "java/lang/IndexOutOfBoundsException", Cond.classLink RL 13 "java/lang/IllegalArgumentException", Cond.classLink RL 15 "java/lang/IllegalStateException", Cond.methodLink RL 34 yX1_cut, Cond.instanceMethod yX1_cut, Cond.selects RX1 yX1_cut yX1_cut, Cond.initialized RX1, Cond.code yX1_cut cX1_cut 4 (some .int), Cond.methodLink RX1 37 yX1_leaseOf, Cond.instanceMethod yX1_leaseOf, Cond.selects RX1 yX1_leaseOf yX1_leaseOf, Cond.code yX1_leaseOf cX1_leaseOf 3 (some (.object "Usewise$Lease")), Cond.classLink RX1 79 "java/lang/IndexOutOfBoundsException", Cond.initialized "java/lang/IndexOutOfBoundsException", Cond.fieldLink RX1 11 "Usewise" "leases" "[LUsewise$Lease;", Cond.methodLink RX1 19 yX1_mustBeWithin, Cond.static yX1_mustBeWithin, Cond.code yX1_mustBeWithin cX1_mustBeWithin 3 none, Cond.classLink RX1 111 "java/lang/IllegalArgumentException", Cond.initialized "java/lang/IllegalArgumentException", Cond.methodLink RX1 41 yX1_mustGoOn, Cond.static yX1_mustGoOn, Cond.code yX1_mustGoOn cX1_mustGoOn 1 none, Cond.classLink RX1 23 "java/lang/IllegalStateException"]
def wsL_cut_r2 : List Cond := [Cond.initialized "java/lang/IllegalStateException", Cond.methodLink RX1 67 yX0_monthsLeft, Cond.instanceMethod yX0_monthsLeft, Cond.selects RX0 yX0_monthsLeft yX0_monthsLeft, Cond.initialized RX0, Cond.code yX0_monthsLeft cX0_monthsLeft 1 (some .int), Cond.fieldLink RX0 27 "Usewise$Lease" "term" "I", Cond.fieldLink RX0 48 "Usewise$Lease" "past" "I", Cond.methodLink RX1 76 yX0_keepPart, Cond.instanceMethod yX0_keepPart, Cond.selects RX0 yX0_keepPart yX0_keepPart, Cond.code yX0_keepPart cX0_keepPart 2 (some .int), Cond.fieldLink RX0 44 "Usewise$Lease" "right" "J", Cond.methodLink RX0 78 yX0_scalePayments, Cond.instanceMethod yX0_scalePayments, Cond.selects RX0 yX0_scalePayments yX0_scalePayments, Cond.code yX0_scalePayments cX0_scalePayments 3 none, Cond.fieldLink RX0 30 "Usewise$Lease" "payments" "[I", Cond.methodLink RX0 75 yX0_percentOf, Cond.static yX0_percentOf, Cond.code yX0_percentOf cX0_percentOf 3 (some .long), Cond.constantLong RX0 89 (100), Cond.methodLink RX0 85 yX0_giveUp, Cond.instanceMethod yX0_giveUp]
def wsL_cut_r3 : List Cond := [Cond.selects RX0 yX0_giveUp yX0_giveUp, Cond.code yX0_giveUp cX0_giveUp 7 (some .int), Cond.fieldLink RX0 91 "Usewise$Lease" "gains" "J", Cond.methodLink RX0 40 yX0_debtNow, Cond.instanceMethod yX0_debtNow, Cond.selects RX0 yX0_debtNow yX0_debtNow, Cond.code yX0_debtNow cX0_debtNow 1 (some .int), Cond.fieldLink RX0 34 "Usewise$Lease" "debts" "[I", Cond.methodLink RX0 37 yX0_layDebts, Cond.instanceMethod yX0_layDebts, Cond.selects RX0 yX0_layDebts yX0_layDebts, Cond.code yX0_layDebts cX0_layDebts 2 none, Cond.fieldLink RX0 9 "Usewise$Lease" "rate" "I", Cond.methodLink RX0 51 yX0_worthBefore, Cond.static yX0_worthBefore, Cond.code yX0_worthBefore cX0_worthBefore 5 (some .long), Cond.constantLong RX0 55 (1000000)]
def wsL_cut : List Cond := .codeWith yL_cut cL_cut 5 (some .int) [(0, 10, 13, 25), (0, 10, 17, 13), (0, 10, 21, 15)] :: ((wsL_cut_r1 ++ (wsL_cut_r2 ++ wsL_cut_r3)) ++ wsX10 ++ wsX00 ++ (vx_atS RX1 83 "java/lang/IndexOutOfBoundsException" ["java/lang/RuntimeException", "java/lang/Exception"]).filter goodWord ++ (vx_atS RX1 115 "java/lang/IllegalArgumentException" ["java/lang/RuntimeException", "java/lang/Exception"]).filter goodWord ++ (vx_atS RX1 27 "java/lang/IllegalStateException" ["java/lang/RuntimeException", "java/lang/Exception"]).filter goodWord)
def wsL_toCome : List Cond := .codeWith yL_toCome cL_toCome 4 (some .int) [(0, 9, 12, 25)] :: ([.classLink RL 25 "java/lang/IndexOutOfBoundsException", .methodLink RL 37 yX1_toCome, .instanceMethod yX1_toCome, .selects RX1 yX1_toCome yX1_toCome, .initialized RX1, .code yX1_toCome cX1_toCome 2 (some .int), .methodLink RX1 37 yX1_leaseOf, .instanceMethod yX1_leaseOf, .selects RX1 yX1_leaseOf yX1_leaseOf, .code yX1_leaseOf cX1_leaseOf 3 (some (.object "Usewise$Lease")), .classLink RX1 79 "java/lang/IndexOutOfBoundsException", .initialized "java/lang/IndexOutOfBoundsException", .fieldLink RX1 11 "Usewise" "leases" "[LUsewise$Lease;", .methodLink RX1 67 yX0_monthsLeft, .instanceMethod yX0_monthsLeft, .selects RX0 yX0_monthsLeft yX0_monthsLeft, .initialized RX0, .code yX0_monthsLeft cX0_monthsLeft 1 (some .int), .fieldLink RX0 27 "Usewise$Lease" "term" "I", .fieldLink RX0 48 "Usewise$Lease" "past" "I"] ++ wsX10 ++ wsX00 ++ (vx_atS RX1 83 "java/lang/IndexOutOfBoundsException" ["java/lang/RuntimeException", "java/lang/Exception"]).filter goodWord)
def wsL_payment_r1 : List Cond := [Cond.classLink RL 25 "java/lang/IndexOutOfBoundsException", Cond.methodLink RL 40 yX1_payment, Cond.instanceMethod yX1_payment, Cond.selects RX1 yX1_payment yX1_payment, Cond.initialized RX1, Cond.code yX1_payment cX1_payment 4 (some .int), Cond.classLink RX1 79 "java/lang/IndexOutOfBoundsException", Cond.initialized "java/lang/IndexOutOfBoundsException", Cond.methodLink RX1 37 yX1_leaseOf, Cond.instanceMethod yX1_leaseOf, Cond.selects RX1 yX1_leaseOf yX1_leaseOf, Cond.code yX1_leaseOf cX1_leaseOf 3 (some (.object "Usewise$Lease")), Cond.fieldLink RX1 11 "Usewise" "leases" "[LUsewise$Lease;", Cond.methodLink RX1 67 yX0_monthsLeft, Cond.instanceMethod yX0_monthsLeft, Cond.selects RX0 yX0_monthsLeft yX0_monthsLeft, Cond.initialized RX0, Cond.code yX0_monthsLeft cX0_monthsLeft 1 (some .int), Cond.fieldLink RX0 27 "Usewise$Lease" "term" "I", Cond.fieldLink RX0 48 "Usewise$Lease" "past" "I", Cond.methodLink RX1 84 yX0_paymentIn, Cond.instanceMethod yX0_paymentIn, Cond.selects RX0 yX0_paymentIn yX0_paymentIn, Cond.code yX0_paymentIn cX0_paymentIn 2 (some .int)]
def wsL_payment_r2 : List Cond := [Cond.fieldLink RX0 30 "Usewise$Lease" "payments" "[I"]
def wsL_payment : List Cond := .codeWith yL_payment cL_payment 5 (some .int) [(0, 10, 13, 25)] :: ((wsL_payment_r1 ++ wsL_payment_r2) ++ wsX10 ++ wsX00 ++ (vx_atS RX1 83 "java/lang/IndexOutOfBoundsException" ["java/lang/RuntimeException", "java/lang/Exception"]).filter goodWord)
def wsL_debt : List Cond := .codeWith yL_debt cL_debt 4 (some .int) [(0, 9, 12, 25)] :: ([.classLink RL 25 "java/lang/IndexOutOfBoundsException", .methodLink RL 43 yX1_debt, .instanceMethod yX1_debt, .selects RX1 yX1_debt yX1_debt, .initialized RX1, .code yX1_debt cX1_debt 2 (some .int), .methodLink RX1 37 yX1_leaseOf, .instanceMethod yX1_leaseOf, .selects RX1 yX1_leaseOf yX1_leaseOf, .code yX1_leaseOf cX1_leaseOf 3 (some (.object "Usewise$Lease")), .classLink RX1 79 "java/lang/IndexOutOfBoundsException", .initialized "java/lang/IndexOutOfBoundsException", .fieldLink RX1 11 "Usewise" "leases" "[LUsewise$Lease;", .methodLink RX1 54 yX0_debtNow, .instanceMethod yX0_debtNow, .selects RX0 yX0_debtNow yX0_debtNow, .initialized RX0, .code yX0_debtNow cX0_debtNow 1 (some .int), .fieldLink RX0 34 "Usewise$Lease" "debts" "[I", .fieldLink RX0 48 "Usewise$Lease" "past" "I"] ++ wsX10 ++ wsX00 ++ (vx_atS RX1 83 "java/lang/IndexOutOfBoundsException" ["java/lang/RuntimeException", "java/lang/Exception"]).filter goodWord)
def wsL_debtByWorth_r1 : List Cond := [Cond.classLink RL 25 "java/lang/IndexOutOfBoundsException", Cond.methodLink RL 46 yX1_debtByWorth, Cond.instanceMethod yX1_debtByWorth, Cond.selects RX1 yX1_debtByWorth yX1_debtByWorth, Cond.initialized RX1, Cond.code yX1_debtByWorth cX1_debtByWorth 3 (some .int), Cond.methodLink RX1 37 yX1_leaseOf, Cond.instanceMethod yX1_leaseOf, Cond.selects RX1 yX1_leaseOf yX1_leaseOf, Cond.code yX1_leaseOf cX1_leaseOf 3 (some (.object "Usewise$Lease")), Cond.classLink RX1 79 "java/lang/IndexOutOfBoundsException", Cond.initialized "java/lang/IndexOutOfBoundsException", Cond.fieldLink RX1 11 "Usewise" "leases" "[LUsewise$Lease;", Cond.methodLink RX1 90 yX0_worthAt, Cond.instanceMethod yX0_worthAt, Cond.selects RX0 yX0_worthAt yX0_worthAt, Cond.initialized RX0, Cond.code yX0_worthAt cX0_worthAt 5 (some .long), Cond.fieldLink RX0 27 "Usewise$Lease" "term" "I", Cond.fieldLink RX0 48 "Usewise$Lease" "past" "I", Cond.fieldLink RX0 30 "Usewise$Lease" "payments" "[I", Cond.methodLink RX0 51 yX0_worthBefore, Cond.static yX0_worthBefore, Cond.code yX0_worthBefore cX0_worthBefore 5 (some .long)]
def wsL_debtByWorth_r2 : List Cond := [Cond.constantLong RX0 55 (1000000)]
def wsL_debtByWorth : List Cond := .codeWith yL_debtByWorth cL_debtByWorth 4 (some .int) [(0, 9, 12, 25)] :: ((wsL_debtByWorth_r1 ++ wsL_debtByWorth_r2) ++ wsX00 ++ wsX10 ++ (vx_atS RX1 83 "java/lang/IndexOutOfBoundsException" ["java/lang/RuntimeException", "java/lang/Exception"]).filter goodWord)
def wsL_right : List Cond := .codeWith yL_right cL_right 4 (some .int) [(0, 9, 12, 25)] :: ([.classLink RL 25 "java/lang/IndexOutOfBoundsException", .methodLink RL 49 yX1_right, .instanceMethod yX1_right, .selects RX1 yX1_right yX1_right, .initialized RX1, .code yX1_right cX1_right 2 (some .int), .methodLink RX1 37 yX1_leaseOf, .instanceMethod yX1_leaseOf, .selects RX1 yX1_leaseOf yX1_leaseOf, .code yX1_leaseOf cX1_leaseOf 3 (some (.object "Usewise$Lease")), .classLink RX1 79 "java/lang/IndexOutOfBoundsException", .initialized "java/lang/IndexOutOfBoundsException", .fieldLink RX1 11 "Usewise" "leases" "[LUsewise$Lease;"] ++ wsX00 ++ wsX10 ++ (vx_atS RX1 83 "java/lang/IndexOutOfBoundsException" ["java/lang/RuntimeException", "java/lang/Exception"]).filter goodWord)
def wsL_interest : List Cond := .codeWith yL_interest cL_interest 4 (some .int) [(0, 9, 12, 25)] :: ([.classLink RL 25 "java/lang/IndexOutOfBoundsException", .methodLink RL 52 yX1_interest, .instanceMethod yX1_interest, .selects RX1 yX1_interest yX1_interest, .initialized RX1, .code yX1_interest cX1_interest 2 (some .int), .methodLink RX1 37 yX1_leaseOf, .instanceMethod yX1_leaseOf, .selects RX1 yX1_leaseOf yX1_leaseOf, .code yX1_leaseOf cX1_leaseOf 3 (some (.object "Usewise$Lease")), .classLink RX1 79 "java/lang/IndexOutOfBoundsException", .initialized "java/lang/IndexOutOfBoundsException", .fieldLink RX1 11 "Usewise" "leases" "[LUsewise$Lease;"] ++ wsX00 ++ wsX10 ++ (vx_atS RX1 83 "java/lang/IndexOutOfBoundsException" ["java/lang/RuntimeException", "java/lang/Exception"]).filter goodWord)
def wsL_written : List Cond := .codeWith yL_written cL_written 4 (some .int) [(0, 9, 12, 25)] :: ([.classLink RL 25 "java/lang/IndexOutOfBoundsException", .methodLink RL 55 yX1_written, .instanceMethod yX1_written, .selects RX1 yX1_written yX1_written, .initialized RX1, .code yX1_written cX1_written 2 (some .int), .methodLink RX1 37 yX1_leaseOf, .instanceMethod yX1_leaseOf, .selects RX1 yX1_leaseOf yX1_leaseOf, .code yX1_leaseOf cX1_leaseOf 3 (some (.object "Usewise$Lease")), .classLink RX1 79 "java/lang/IndexOutOfBoundsException", .initialized "java/lang/IndexOutOfBoundsException", .fieldLink RX1 11 "Usewise" "leases" "[LUsewise$Lease;"] ++ wsX00 ++ wsX10 ++ (vx_atS RX1 83 "java/lang/IndexOutOfBoundsException" ["java/lang/RuntimeException", "java/lang/Exception"]).filter goodWord)
def wsL_paid : List Cond := .codeWith yL_paid cL_paid 4 (some .int) [(0, 9, 12, 25)] :: ([.classLink RL 25 "java/lang/IndexOutOfBoundsException", .methodLink RL 58 yX1_paid, .instanceMethod yX1_paid, .selects RX1 yX1_paid yX1_paid, .initialized RX1, .code yX1_paid cX1_paid 2 (some .int), .methodLink RX1 37 yX1_leaseOf, .instanceMethod yX1_leaseOf, .selects RX1 yX1_leaseOf yX1_leaseOf, .code yX1_leaseOf cX1_leaseOf 3 (some (.object "Usewise$Lease")), .classLink RX1 79 "java/lang/IndexOutOfBoundsException", .initialized "java/lang/IndexOutOfBoundsException", .fieldLink RX1 11 "Usewise" "leases" "[LUsewise$Lease;"] ++ wsX00 ++ wsX10 ++ (vx_atS RX1 83 "java/lang/IndexOutOfBoundsException" ["java/lang/RuntimeException", "java/lang/Exception"]).filter goodWord)
def wsL_gains : List Cond := .codeWith yL_gains cL_gains 4 (some .int) [(0, 9, 12, 25)] :: ([.classLink RL 25 "java/lang/IndexOutOfBoundsException", .methodLink RL 61 yX1_gains, .instanceMethod yX1_gains, .selects RX1 yX1_gains yX1_gains, .initialized RX1, .code yX1_gains cX1_gains 2 (some .int), .methodLink RX1 37 yX1_leaseOf, .instanceMethod yX1_leaseOf, .selects RX1 yX1_leaseOf yX1_leaseOf, .code yX1_leaseOf cX1_leaseOf 3 (some (.object "Usewise$Lease")), .classLink RX1 79 "java/lang/IndexOutOfBoundsException", .initialized "java/lang/IndexOutOfBoundsException", .fieldLink RX1 11 "Usewise" "leases" "[LUsewise$Lease;"] ++ wsX00 ++ wsX10 ++ (vx_atS RX1 83 "java/lang/IndexOutOfBoundsException" ["java/lang/RuntimeException", "java/lang/Exception"]).filter goodWord)
def wsL_rateFor_r1 : List Cond := [Cond.classLink RL 25 "java/lang/IndexOutOfBoundsException", Cond.classLink RL 13 "java/lang/IllegalArgumentException", Cond.methodLink RL 64 yX1_rateFor, Cond.instanceMethod yX1_rateFor, Cond.selects RX1 yX1_rateFor yX1_rateFor, Cond.initialized RX1, Cond.code yX1_rateFor cX1_rateFor 8 (some .int), Cond.constant RX1 110 (10000000), Cond.methodLink RX1 37 yX1_leaseOf, Cond.instanceMethod yX1_leaseOf, Cond.selects RX1 yX1_leaseOf yX1_leaseOf, Cond.code yX1_leaseOf cX1_leaseOf 3 (some (.object "Usewise$Lease")), Cond.classLink RX1 79 "java/lang/IndexOutOfBoundsException", Cond.initialized "java/lang/IndexOutOfBoundsException", Cond.fieldLink RX1 11 "Usewise" "leases" "[LUsewise$Lease;", Cond.methodLink RX1 19 yX1_mustBeWithin, Cond.static yX1_mustBeWithin, Cond.code yX1_mustBeWithin cX1_mustBeWithin 3 none, Cond.classLink RX1 111 "java/lang/IllegalArgumentException", Cond.initialized "java/lang/IllegalArgumentException", Cond.methodLink RX1 90 yX0_worthAt, Cond.instanceMethod yX0_worthAt, Cond.selects RX0 yX0_worthAt yX0_worthAt, Cond.initialized RX0]
def wsL_rateFor_r2 : List Cond := [Cond.code yX0_worthAt cX0_worthAt 5 (some .long), Cond.fieldLink RX0 27 "Usewise$Lease" "term" "I", Cond.fieldLink RX0 48 "Usewise$Lease" "past" "I", Cond.fieldLink RX0 30 "Usewise$Lease" "payments" "[I", Cond.methodLink RX0 51 yX0_worthBefore, Cond.static yX0_worthBefore, Cond.code yX0_worthBefore cX0_worthBefore 5 (some .long), Cond.constantLong RX0 55 (1000000)]
def wsL_rateFor : List Cond := .codeWith yL_rateFor cL_rateFor 5 (some .int) [(0, 10, 13, 25), (0, 10, 17, 13)] :: ((wsL_rateFor_r1 ++ wsL_rateFor_r2) ++ wsX10 ++ wsX00 ++ (vx_atS RX1 83 "java/lang/IndexOutOfBoundsException" ["java/lang/RuntimeException", "java/lang/Exception"]).filter goodWord ++ (vx_atS RX1 115 "java/lang/IllegalArgumentException" ["java/lang/RuntimeException", "java/lang/Exception"]).filter goodWord)
def wsL_saleGain_r1 : List Cond := [Cond.classLink RL 25 "java/lang/IndexOutOfBoundsException", Cond.classLink RL 13 "java/lang/IllegalArgumentException", Cond.methodLink RL 67 yX1_saleGain, Cond.instanceMethod yX1_saleGain, Cond.selects RX1 yX1_saleGain yX1_saleGain, Cond.initialized RX1, Cond.code yX1_saleGain cX1_saleGain 7 (some .int), Cond.constant RX1 110 (10000000), Cond.methodLink RX1 37 yX1_leaseOf, Cond.instanceMethod yX1_leaseOf, Cond.selects RX1 yX1_leaseOf yX1_leaseOf, Cond.code yX1_leaseOf cX1_leaseOf 3 (some (.object "Usewise$Lease")), Cond.classLink RX1 79 "java/lang/IndexOutOfBoundsException", Cond.initialized "java/lang/IndexOutOfBoundsException", Cond.fieldLink RX1 11 "Usewise" "leases" "[LUsewise$Lease;", Cond.methodLink RX1 19 yX1_mustBeWithin, Cond.static yX1_mustBeWithin, Cond.code yX1_mustBeWithin cX1_mustBeWithin 3 none, Cond.classLink RX1 111 "java/lang/IllegalArgumentException", Cond.initialized "java/lang/IllegalArgumentException", Cond.methodLink RX1 54 yX0_debtNow, Cond.instanceMethod yX0_debtNow, Cond.selects RX0 yX0_debtNow yX0_debtNow, Cond.initialized RX0]
def wsL_saleGain_r2 : List Cond := [Cond.code yX0_debtNow cX0_debtNow 1 (some .int), Cond.fieldLink RX0 34 "Usewise$Lease" "debts" "[I", Cond.fieldLink RX0 48 "Usewise$Lease" "past" "I"]
def wsL_saleGain : List Cond := .codeWith yL_saleGain cL_saleGain 6 (some .int) [(0, 12, 15, 25), (0, 12, 19, 13)] :: ((wsL_saleGain_r1 ++ wsL_saleGain_r2) ++ wsX10 ++ wsX00 ++ (vx_atS RX1 83 "java/lang/IndexOutOfBoundsException" ["java/lang/RuntimeException", "java/lang/Exception"]).filter goodWord ++ (vx_atS RX1 115 "java/lang/IllegalArgumentException" ["java/lang/RuntimeException", "java/lang/Exception"]).filter goodWord)
def wsL_law0_r1 : List Cond := [Cond.classLink RL 8 RX1, Cond.instantiable RX1 2, Cond.initialized RX1, Cond.classLink RL 71 RX2, Cond.instantiable RX2 13, Cond.initialized RX2, Cond.arrayClass .long, Cond.methodLink RL 70 yX1_init, Cond.instanceMethod yX1_init, Cond.code yX1_init cX1_init 1 none, Cond.methodLink RX1 1 objectInit, Cond.instanceMethod objectInit, Cond.code objectInit ⟨#[0xb1]⟩ 1 none, Cond.classLink RX1 9 RX0, Cond.fieldLink RX1 11 "Usewise" "leases" "[LUsewise$Lease;", Cond.fieldLink RX1 15 "Usewise" "count" "I", Cond.methodLink RL 73 yX2_init, Cond.instanceMethod yX2_init, Cond.code yX2_init cX2_init 1 none, Cond.methodLink RX2 1 objectInit, Cond.arrayClass .int, Cond.fieldLink RX2 7 "UsewiseModel" "payments" "[I", Cond.fieldLink RX2 13 "UsewiseModel" "months" "[I", Cond.fieldLink RX2 16 "UsewiseModel" "past" "[I"]
def wsL_law0_r2 : List Cond := [Cond.fieldLink RX2 19 "UsewiseModel" "rate" "[I", Cond.fieldLink RX2 22 "UsewiseModel" "life" "[I", Cond.fieldLink RX2 25 "UsewiseModel" "debt" "[I", Cond.fieldLink RX2 28 "UsewiseModel" "right" "[I", Cond.fieldLink RX2 31 "UsewiseModel" "interest" "[I", Cond.fieldLink RX2 34 "UsewiseModel" "written" "[I", Cond.fieldLink RX2 37 "UsewiseModel" "paid" "[I", Cond.fieldLink RX2 40 "UsewiseModel" "gains" "[I", Cond.methodLink RL 74 yL_add, Cond.static yL_add, Cond.initialized RL, Cond.codeWith yL_add cL_add 10 (some .int) [(0, 20, 23, 13), (0, 20, 27, 15)], Cond.classLink RL 13 "java/lang/IllegalArgumentException", Cond.classLink RL 15 "java/lang/IllegalStateException", Cond.methodLink RL 7 yX1_add, Cond.instanceMethod yX1_add, Cond.selects RX1 yX1_add yX1_add, Cond.code yX1_add cX1_add 9 (some .int), Cond.classLink RX1 23 "java/lang/IllegalStateException", Cond.initialized "java/lang/IllegalStateException", Cond.instantiable RX0 11, Cond.initialized RX0, Cond.methodLink RX1 19 yX1_mustBeWithin, Cond.static yX1_mustBeWithin]
def wsL_law0_r3 : List Cond := [Cond.code yX1_mustBeWithin cX1_mustBeWithin 3 none, Cond.classLink RX1 111 "java/lang/IllegalArgumentException", Cond.initialized "java/lang/IllegalArgumentException", Cond.methodLink RX1 30 yX0_init, Cond.instanceMethod yX0_init, Cond.code yX0_init cX0_init 9 none, Cond.methodLink RX0 3 objectInit, Cond.fieldLink RX0 9 "Usewise$Lease" "rate" "I", Cond.fieldLink RX0 15 "Usewise$Lease" "life" "I", Cond.methodLink RX0 18 Lib.Math.min.name, Cond.static Lib.Math.min.name, Cond.initialized "java/lang/Math", Cond.code Lib.Math.min.name Lib.Math.min.code 2 (some .int), Cond.methodLink RX0 24 Lib.Math.max.name, Cond.static Lib.Math.max.name, Cond.code Lib.Math.max.name Lib.Math.max.code 2 (some .int), Cond.fieldLink RX0 27 "Usewise$Lease" "term" "I", Cond.fieldLink RX0 30 "Usewise$Lease" "payments" "[I", Cond.fieldLink RX0 34 "Usewise$Lease" "debts" "[I", Cond.fieldLink RX0 44 "Usewise$Lease" "right" "J", Cond.methodLink RX0 37 yX0_layDebts, Cond.instanceMethod yX0_layDebts, Cond.selects RX0 yX0_layDebts yX0_layDebts, Cond.code yX0_layDebts cX0_layDebts 2 none]
def wsL_law0_r4 : List Cond := [Cond.fieldLink RX0 48 "Usewise$Lease" "past" "I", Cond.methodLink RX0 51 yX0_worthBefore, Cond.static yX0_worthBefore, Cond.code yX0_worthBefore cX0_worthBefore 5 (some .long), Cond.constantLong RX0 55 (1000000), Cond.methodLink RX0 40 yX0_debtNow, Cond.instanceMethod yX0_debtNow, Cond.selects RX0 yX0_debtNow yX0_debtNow, Cond.code yX0_debtNow cX0_debtNow 1 (some .int), Cond.methodLink RL 79 yX2_add, Cond.instanceMethod yX2_add, Cond.selects RX2 yX2_add yX2_add, Cond.code yX2_add cX2_add 11 (some .int), Cond.fieldLink RX2 43 "UsewiseModel" "thrown" "I", Cond.fieldLink RX2 47 "UsewiseModel" "leases" "I", Cond.methodLink RX2 50 yX2_in, Cond.static yX2_in, Cond.code yX2_in cX2_in 3 (some .boolean), Cond.methodLink RX2 60 yX2_fails, Cond.instanceMethod yX2_fails, Cond.selects RX2 yX2_fails yX2_fails, Cond.code yX2_fails cX2_fails 2 (some .int), Cond.methodLink RX2 64 yX2_worthNow, Cond.instanceMethod yX2_worthNow]
def wsL_law0_r5 : List Cond := [Cond.selects RX2 yX2_worthNow yX2_worthNow, Cond.code yX2_worthNow cX2_worthNow 2 (some .int), Cond.methodLink RX2 56 yX2_worth, Cond.instanceMethod yX2_worth, Cond.selects RX2 yX2_worth yX2_worth, Cond.code yX2_worth cX2_worth 9 (some .int), Cond.constantLong RX2 54 (1000000), Cond.methodLink RL 80 yX2_thrown, Cond.instanceMethod yX2_thrown, Cond.selects RX2 yX2_thrown yX2_thrown, Cond.code yX2_thrown cX2_thrown 1 (some .int), Cond.methodLink RL 84 yL_pass, Cond.static yL_pass, Cond.codeWith yL_pass cL_pass 4 (some .int) [(0, 9, 12, 13)], Cond.methodLink RL 17 yX1_pass, Cond.instanceMethod yX1_pass, Cond.selects RX1 yX1_pass yX1_pass, Cond.code yX1_pass cX1_pass 7 (some .int), Cond.methodLink RX1 33 yX0_endsWithin, Cond.instanceMethod yX0_endsWithin, Cond.selects RX0 yX0_endsWithin yX0_endsWithin, Cond.code yX0_endsWithin cX0_endsWithin 4 (some .boolean), Cond.methodLink RX0 57 yX0_monthsLeft, Cond.instanceMethod yX0_monthsLeft]
def wsL_law0_r6 : List Cond := [Cond.selects RX0 yX0_monthsLeft yX0_monthsLeft, Cond.code yX0_monthsLeft cX0_monthsLeft 1 (some .int), Cond.methodLink RX0 60 yX0_passOneMonth, Cond.instanceMethod yX0_passOneMonth, Cond.selects RX0 yX0_passOneMonth yX0_passOneMonth, Cond.code yX0_passOneMonth cX0_passOneMonth 4 none, Cond.fieldLink RX0 63 "Usewise$Lease" "interest" "J", Cond.fieldLink RX0 66 "Usewise$Lease" "paid" "J", Cond.fieldLink RX0 72 "Usewise$Lease" "written" "J", Cond.methodLink RX0 69 yX0_monthsToWriteOver, Cond.instanceMethod yX0_monthsToWriteOver, Cond.selects RX0 yX0_monthsToWriteOver yX0_monthsToWriteOver, Cond.code yX0_monthsToWriteOver cX0_monthsToWriteOver 1 (some .int), Cond.methodLink RL 87 yX2_pass, Cond.instanceMethod yX2_pass, Cond.selects RX2 yX2_pass yX2_pass, Cond.code yX2_pass cX2_pass 6 (some .int), Cond.methodLink RX2 67 yX2_left, Cond.instanceMethod yX2_left, Cond.selects RX2 yX2_left yX2_left, Cond.code yX2_left cX2_left 2 (some .int), Cond.methodLink RX2 70 yX2_month, Cond.instanceMethod yX2_month, Cond.selects RX2 yX2_month yX2_month]
def wsL_law0_r7 : List Cond := [Cond.code yX2_month cX2_month 8 none, Cond.methodLink RL 88 yL_review, Cond.static yL_review, Cond.codeWith yL_review cL_review 5 (some .int) [(0, 10, 13, 25), (0, 10, 17, 13), (0, 10, 21, 15)], Cond.classLink RL 25 "java/lang/IndexOutOfBoundsException", Cond.methodLink RL 21 yX1_review, Cond.instanceMethod yX1_review, Cond.selects RX1 yX1_review yX1_review, Cond.code yX1_review cX1_review 4 (some .int), Cond.methodLink RX1 37 yX1_leaseOf, Cond.instanceMethod yX1_leaseOf, Cond.selects RX1 yX1_leaseOf yX1_leaseOf, Cond.code yX1_leaseOf cX1_leaseOf 3 (some (.object "Usewise$Lease")), Cond.classLink RX1 79 "java/lang/IndexOutOfBoundsException", Cond.initialized "java/lang/IndexOutOfBoundsException", Cond.methodLink RX1 41 yX1_mustGoOn, Cond.static yX1_mustGoOn, Cond.code yX1_mustGoOn cX1_mustGoOn 1 none, Cond.methodLink RX1 67 yX0_monthsLeft, Cond.methodLink RX1 45 yX0_wouldPassTheMost, Cond.instanceMethod yX0_wouldPassTheMost, Cond.selects RX0 yX0_wouldPassTheMost yX0_wouldPassTheMost, Cond.code yX0_wouldPassTheMost cX0_wouldPassTheMost 3 (some .boolean), Cond.methodLink RX0 75 yX0_percentOf]
def wsL_law0_r8 : List Cond := [Cond.static yX0_percentOf, Cond.code yX0_percentOf cX0_percentOf 3 (some .long), Cond.constantLong RX0 89 (100), Cond.methodLink RX1 50 yX0_reviewPayments, Cond.instanceMethod yX0_reviewPayments, Cond.selects RX0 yX0_reviewPayments yX0_reviewPayments, Cond.code yX0_reviewPayments cX0_reviewPayments 2 none, Cond.methodLink RX0 78 yX0_scalePayments, Cond.instanceMethod yX0_scalePayments, Cond.selects RX0 yX0_scalePayments yX0_scalePayments, Cond.code yX0_scalePayments cX0_scalePayments 3 none, Cond.methodLink RX0 82 yX0_followDebt, Cond.instanceMethod yX0_followDebt, Cond.selects RX0 yX0_followDebt yX0_followDebt, Cond.code yX0_followDebt cX0_followDebt 3 none, Cond.fieldLink RX0 91 "Usewise$Lease" "gains" "J", Cond.methodLink RX1 54 yX0_debtNow, Cond.methodLink RL 91 yX2_review, Cond.instanceMethod yX2_review, Cond.selects RX2 yX2_review yX2_review, Cond.code yX2_review cX2_review 5 (some .int), Cond.constantLong RX2 78 (100), Cond.methodLink RX2 74 yX2_isNoLease, Cond.instanceMethod yX2_isNoLease]
def wsL_law0_r9 : List Cond := [Cond.selects RX2 yX2_isNoLease yX2_isNoLease, Cond.code yX2_isNoLease cX2_isNoLease 2 (some .boolean), Cond.methodLink RX2 80 yX2_laidAgain, Cond.instanceMethod yX2_laidAgain, Cond.selects RX2 yX2_laidAgain yX2_laidAgain, Cond.code yX2_laidAgain cX2_laidAgain 3 (some .int), Cond.methodLink RL 92 yL_lengthen, Cond.static yL_lengthen, Cond.codeWith yL_lengthen cL_lengthen 6 (some .int) [(0, 12, 15, 25), (0, 12, 19, 13), (0, 12, 23, 15)], Cond.methodLink RL 27 yX1_lengthen, Cond.instanceMethod yX1_lengthen, Cond.selects RX1 yX1_lengthen yX1_lengthen, Cond.code yX1_lengthen cX1_lengthen 5 (some .int), Cond.methodLink RX1 58 yX0_hasRoomFor, Cond.instanceMethod yX0_hasRoomFor, Cond.selects RX0 yX0_hasRoomFor yX0_hasRoomFor, Cond.code yX0_hasRoomFor cX0_hasRoomFor 2 (some .boolean), Cond.methodLink RX1 63 yX0_putBehind, Cond.instanceMethod yX0_putBehind, Cond.selects RX0 yX0_putBehind yX0_putBehind, Cond.code yX0_putBehind cX0_putBehind 5 none, Cond.methodLink RL 95 yX2_lengthen, Cond.instanceMethod yX2_lengthen, Cond.selects RX2 yX2_lengthen yX2_lengthen]
def wsL_law0_r10 : List Cond := [Cond.code yX2_lengthen cX2_lengthen 5 (some .int), Cond.methodLink RL 96 yL_shorten, Cond.static yL_shorten, Cond.codeWith yL_shorten cL_shorten 5 (some .int) [(0, 10, 13, 25), (0, 10, 17, 13), (0, 10, 21, 15)], Cond.methodLink RL 31 yX1_shorten, Cond.instanceMethod yX1_shorten, Cond.selects RX1 yX1_shorten yX1_shorten, Cond.code yX1_shorten cX1_shorten 4 (some .int), Cond.methodLink RX1 72 yX0_takeOffTheEnd, Cond.instanceMethod yX0_takeOffTheEnd, Cond.selects RX0 yX0_takeOffTheEnd yX0_takeOffTheEnd, Cond.code yX0_takeOffTheEnd cX0_takeOffTheEnd 3 (some .int), Cond.methodLink RX0 85 yX0_giveUp, Cond.instanceMethod yX0_giveUp, Cond.selects RX0 yX0_giveUp yX0_giveUp, Cond.code yX0_giveUp cX0_giveUp 7 (some .int), Cond.methodLink RL 98 yX2_shorten, Cond.instanceMethod yX2_shorten, Cond.selects RX2 yX2_shorten yX2_shorten, Cond.code yX2_shorten cX2_shorten 4 (some .int), Cond.methodLink RX2 83 yX2_givenUp, Cond.instanceMethod yX2_givenUp, Cond.selects RX2 yX2_givenUp yX2_givenUp, Cond.code yX2_givenUp cX2_givenUp 5 (some .int)]
def wsL_law0_r11 : List Cond := [Cond.methodLink RL 99 yL_cut, Cond.static yL_cut, Cond.codeWith yL_cut cL_cut 5 (some .int) [(0, 10, 13, 25), (0, 10, 17, 13), (0, 10, 21, 15)], Cond.methodLink RL 34 yX1_cut, Cond.instanceMethod yX1_cut, Cond.selects RX1 yX1_cut yX1_cut, Cond.code yX1_cut cX1_cut 4 (some .int), Cond.methodLink RX1 76 yX0_keepPart, Cond.instanceMethod yX0_keepPart, Cond.selects RX0 yX0_keepPart yX0_keepPart, Cond.code yX0_keepPart cX0_keepPart 2 (some .int), Cond.methodLink RL 101 yX2_cut, Cond.instanceMethod yX2_cut, Cond.selects RX2 yX2_cut yX2_cut, Cond.code yX2_cut cX2_cut 4 (some .int), Cond.methodLink RL 102 yL_toCome, Cond.static yL_toCome, Cond.codeWith yL_toCome cL_toCome 4 (some .int) [(0, 9, 12, 25)], Cond.methodLink RL 37 yX1_toCome, Cond.instanceMethod yX1_toCome, Cond.selects RX1 yX1_toCome yX1_toCome, Cond.code yX1_toCome cX1_toCome 2 (some .int), Cond.methodLink RL 104 yX2_toCome, Cond.instanceMethod yX2_toCome]
def wsL_law0_r12 : List Cond := [Cond.selects RX2 yX2_toCome yX2_toCome, Cond.code yX2_toCome cX2_toCome 2 (some .int), Cond.methodLink RL 105 yL_payment, Cond.static yL_payment, Cond.codeWith yL_payment cL_payment 5 (some .int) [(0, 10, 13, 25)], Cond.methodLink RL 40 yX1_payment, Cond.instanceMethod yX1_payment, Cond.selects RX1 yX1_payment yX1_payment, Cond.code yX1_payment cX1_payment 4 (some .int), Cond.methodLink RX1 84 yX0_paymentIn, Cond.instanceMethod yX0_paymentIn, Cond.selects RX0 yX0_paymentIn yX0_paymentIn, Cond.code yX0_paymentIn cX0_paymentIn 2 (some .int), Cond.methodLink RL 107 yX2_payment, Cond.instanceMethod yX2_payment, Cond.selects RX2 yX2_payment yX2_payment, Cond.code yX2_payment cX2_payment 3 (some .int), Cond.methodLink RL 108 yL_debt, Cond.static yL_debt, Cond.codeWith yL_debt cL_debt 4 (some .int) [(0, 9, 12, 25)], Cond.methodLink RL 43 yX1_debt, Cond.instanceMethod yX1_debt, Cond.selects RX1 yX1_debt yX1_debt, Cond.code yX1_debt cX1_debt 2 (some .int)]
def wsL_law0_r13 : List Cond := [Cond.methodLink RL 110 yX2_debt, Cond.instanceMethod yX2_debt, Cond.selects RX2 yX2_debt yX2_debt, Cond.code yX2_debt cX2_debt 2 (some .int), Cond.methodLink RL 111 yL_debtByWorth, Cond.static yL_debtByWorth, Cond.codeWith yL_debtByWorth cL_debtByWorth 4 (some .int) [(0, 9, 12, 25)], Cond.methodLink RL 46 yX1_debtByWorth, Cond.instanceMethod yX1_debtByWorth, Cond.selects RX1 yX1_debtByWorth yX1_debtByWorth, Cond.code yX1_debtByWorth cX1_debtByWorth 3 (some .int), Cond.methodLink RX1 90 yX0_worthAt, Cond.instanceMethod yX0_worthAt, Cond.selects RX0 yX0_worthAt yX0_worthAt, Cond.code yX0_worthAt cX0_worthAt 5 (some .long), Cond.methodLink RL 113 yX2_debtByWorth, Cond.instanceMethod yX2_debtByWorth, Cond.selects RX2 yX2_debtByWorth yX2_debtByWorth, Cond.code yX2_debtByWorth cX2_debtByWorth 2 (some .int), Cond.methodLink RL 114 yL_right, Cond.static yL_right, Cond.codeWith yL_right cL_right 4 (some .int) [(0, 9, 12, 25)], Cond.methodLink RL 49 yX1_right, Cond.instanceMethod yX1_right]
def wsL_law0_r14 : List Cond := [Cond.selects RX1 yX1_right yX1_right, Cond.code yX1_right cX1_right 2 (some .int), Cond.methodLink RL 116 yX2_right, Cond.instanceMethod yX2_right, Cond.selects RX2 yX2_right yX2_right, Cond.code yX2_right cX2_right 2 (some .int), Cond.methodLink RL 117 yL_interest, Cond.static yL_interest, Cond.codeWith yL_interest cL_interest 4 (some .int) [(0, 9, 12, 25)], Cond.methodLink RL 52 yX1_interest, Cond.instanceMethod yX1_interest, Cond.selects RX1 yX1_interest yX1_interest, Cond.code yX1_interest cX1_interest 2 (some .int), Cond.methodLink RL 119 yX2_interest, Cond.instanceMethod yX2_interest, Cond.selects RX2 yX2_interest yX2_interest, Cond.code yX2_interest cX2_interest 2 (some .int), Cond.methodLink RL 120 yL_written, Cond.static yL_written, Cond.codeWith yL_written cL_written 4 (some .int) [(0, 9, 12, 25)], Cond.methodLink RL 55 yX1_written, Cond.instanceMethod yX1_written, Cond.selects RX1 yX1_written yX1_written, Cond.code yX1_written cX1_written 2 (some .int)]
def wsL_law0_r15 : List Cond := [Cond.methodLink RL 122 yX2_written, Cond.instanceMethod yX2_written, Cond.selects RX2 yX2_written yX2_written, Cond.code yX2_written cX2_written 2 (some .int), Cond.methodLink RL 123 yL_paid, Cond.static yL_paid, Cond.codeWith yL_paid cL_paid 4 (some .int) [(0, 9, 12, 25)], Cond.methodLink RL 58 yX1_paid, Cond.instanceMethod yX1_paid, Cond.selects RX1 yX1_paid yX1_paid, Cond.code yX1_paid cX1_paid 2 (some .int), Cond.methodLink RL 125 yX2_paid, Cond.instanceMethod yX2_paid, Cond.selects RX2 yX2_paid yX2_paid, Cond.code yX2_paid cX2_paid 2 (some .int), Cond.methodLink RL 126 yL_gains, Cond.static yL_gains, Cond.codeWith yL_gains cL_gains 4 (some .int) [(0, 9, 12, 25)], Cond.methodLink RL 61 yX1_gains, Cond.instanceMethod yX1_gains, Cond.selects RX1 yX1_gains yX1_gains, Cond.code yX1_gains cX1_gains 2 (some .int), Cond.methodLink RL 128 yX2_gains, Cond.instanceMethod yX2_gains]
def wsL_law0_r16 : List Cond := [Cond.selects RX2 yX2_gains yX2_gains, Cond.code yX2_gains cX2_gains 2 (some .int), Cond.methodLink RL 129 yL_rateFor, Cond.static yL_rateFor, Cond.codeWith yL_rateFor cL_rateFor 5 (some .int) [(0, 10, 13, 25), (0, 10, 17, 13)], Cond.methodLink RL 64 yX1_rateFor, Cond.instanceMethod yX1_rateFor, Cond.selects RX1 yX1_rateFor yX1_rateFor, Cond.code yX1_rateFor cX1_rateFor 8 (some .int), Cond.constant RX1 110 (10000000), Cond.methodLink RL 131 yX2_rateFor, Cond.instanceMethod yX2_rateFor, Cond.selects RX2 yX2_rateFor yX2_rateFor, Cond.code yX2_rateFor cX2_rateFor 6 (some .int), Cond.constant RX2 87 (10000000), Cond.methodLink RL 132 yL_saleGain, Cond.static yL_saleGain, Cond.codeWith yL_saleGain cL_saleGain 6 (some .int) [(0, 12, 15, 25), (0, 12, 19, 13)], Cond.methodLink RL 67 yX1_saleGain, Cond.instanceMethod yX1_saleGain, Cond.selects RX1 yX1_saleGain yX1_saleGain, Cond.code yX1_saleGain cX1_saleGain 7 (some .int), Cond.methodLink RL 134 yX2_saleGain, Cond.instanceMethod yX2_saleGain]
def wsL_law0_r17 : List Cond := [Cond.selects RX2 yX2_saleGain yX2_saleGain, Cond.code yX2_saleGain cX2_saleGain 4 (some .int)]
def wsL_law0 : List Cond := (wsL_law0_r1 ++ (wsL_law0_r2 ++ (wsL_law0_r3 ++ (wsL_law0_r4 ++ (wsL_law0_r5 ++ (wsL_law0_r6 ++ (wsL_law0_r7 ++ (wsL_law0_r8 ++ (wsL_law0_r9 ++ (wsL_law0_r10 ++ (wsL_law0_r11 ++ (wsL_law0_r12 ++ (wsL_law0_r13 ++ (wsL_law0_r14 ++ (wsL_law0_r15 ++ (wsL_law0_r16 ++ wsL_law0_r17)))))))))))))))) ++ wsX10 ++ wsX20 ++ wsX00 ++ ([] : List Cond)
def wsL_law : List Cond := wsL_law0 ++ (vx_atS RX1 27 "java/lang/IllegalStateException" ["java/lang/RuntimeException", "java/lang/Exception"]).filter goodWord ++ (vx_atS RX1 115 "java/lang/IllegalArgumentException" ["java/lang/RuntimeException", "java/lang/Exception"]).filter goodWord ++ (vx_atS RX1 83 "java/lang/IndexOutOfBoundsException" ["java/lang/RuntimeException", "java/lang/Exception"]).filter goodWord
set_option maxRecDepth 20000 in
theorem wsL_law_in0 : ∀ w ∈ wsL_law0, w ∈ lw_tbl := fun w h => (goodIn_p wsL_law0 [31, 34, 416, 52, 55, 143, 147, 150, 154, 157, 162, 465, 468, 472, 476, 480, 461, 210, 214, 218, 222, 226, 485, 489, 493, 234, 238, 257, 263, 266, 272, 276, 280, 497, 501, 506, 288, 292, 297, 510, 304, 309, 313, 514, 518, 320, 324, 522, 331, 526, 338, 343, 530, 350, 534, 357, 361, 538, 368, 542, 375, 546, 382, 550, 389, 554, 396, 558, 403, 562, 411, 567] (by decide +kernel) (by decide +kernel) w h).1
theorem wsL_law_x0 : ∀ w ∈ (vx_atS RX1 27 "java/lang/IllegalStateException" ["java/lang/RuntimeException", "java/lang/Exception"]).filter goodWord, w ∈ lw_tbl := by decide +kernel
theorem wsL_law_x1 : ∀ w ∈ (vx_atS RX1 115 "java/lang/IllegalArgumentException" ["java/lang/RuntimeException", "java/lang/Exception"]).filter goodWord, w ∈ lw_tbl := by decide +kernel
theorem wsL_law_x2 : ∀ w ∈ (vx_atS RX1 83 "java/lang/IndexOutOfBoundsException" ["java/lang/RuntimeException", "java/lang/Exception"]).filter goodWord, w ∈ lw_tbl := by decide +kernel
theorem wsL_law_in : ∀ w ∈ wsL_law, w ∈ lw_tbl := fun w h => (List.mem_append.mp h).elim (fun h => (List.mem_append.mp h).elim (fun h => (List.mem_append.mp h).elim (fun h => wsL_law_in0 w h) (fun h => wsL_law_x0 w h)) (fun h => wsL_law_x1 w h)) (fun h => wsL_law_x2 w h)
theorem inlX0 : ∀ w ∈ wsX00, w ∈ wsL_law := fun _ h => List.mem_append_left _ (List.mem_append_left _ (List.mem_append_left _ (List.mem_append_left _ (List.mem_append_right _ h))))
theorem inX0 : ∀ w ∈ wsX00, w ∈ lw_tbl := fun w h => wsL_law_in w (inlX0 w h)
theorem inlX1 : ∀ w ∈ wsX10, w ∈ wsL_law := fun _ h => List.mem_append_left _ (List.mem_append_left _ (List.mem_append_left _ (List.mem_append_left _ (List.mem_append_left _ (List.mem_append_left _ (List.mem_append_right _ h))))))
theorem inX1 : ∀ w ∈ wsX10, w ∈ lw_tbl := fun w h => wsL_law_in w (inlX1 w h)
theorem inlX2 : ∀ w ∈ wsX20, w ∈ wsL_law := fun _ h => List.mem_append_left _ (List.mem_append_left _ (List.mem_append_left _ (List.mem_append_left _ (List.mem_append_left _ (List.mem_append_right _ h)))))
theorem inX2 : ∀ w ∈ wsX20, w ∈ lw_tbl := fun w h => wsL_law_in w (inlX2 w h)
theorem inJ9 : ∀ w ∈ wsJ90, w ∈ lw_tbl := by decide +kernel
theorem inJ0 : ∀ w ∈ wsJ00, w ∈ lw_tbl := by decide +kernel
end
section
set_option maxRecDepth 20000 in
theorem ggX0_init_X0_layDebts : GoodIn wsX0_init wsX0_layDebts := goodIn_r _ [22, 16, 13, 23, 15, 4, 24, 25, 21, 26, 27, 32, 33, 34, 35, 36, 37, 38, 39, 40, 41, 42] (by decide +kernel) (by decide +kernel)
set_option maxRecDepth 20000 in
theorem gX0_init_X0_layDebts : GoodIn wsX0_init (wsV RX0 37 RX0 yX0_layDebts wsX0_layDebts) := goodIn_app (goodIn_of _ (by decide +kernel)) ggX0_init_X0_layDebts
set_option maxRecDepth 20000 in
theorem ggX0_init_X0_debtNow : GoodIn wsX0_init wsX0_debtNow := goodIn_r _ [31, 16, 23, 32, 33, 34, 35, 36, 37, 38, 39, 40, 41, 42] (by decide +kernel) (by decide +kernel)
set_option maxRecDepth 20000 in
theorem gX0_init_X0_debtNow : GoodIn wsX0_init (wsV RX0 40 RX0 yX0_debtNow wsX0_debtNow) := goodIn_app (goodIn_of _ (by decide +kernel)) ggX0_init_X0_debtNow
theorem dX0_init_0 : decode cX0_init 0 = .ok (.aload_n 0, 1) := by decide +kernel
theorem dX0_init_1 : decode cX0_init 1 = .ok (.invokespecial 3, 3) := by decide +kernel
theorem dX0_init_4 : decode cX0_init 4 = .ok (.aload_n 0, 1) := by decide +kernel
theorem dX0_init_5 : decode cX0_init 5 = .ok (.iload 5, 2) := by decide +kernel
theorem dX0_init_7 : decode cX0_init 7 = .ok (.putfield 9, 3) := by decide +kernel
theorem dX0_init_10 : decode cX0_init 10 = .ok (.aload_n 0, 1) := by decide +kernel
theorem dX0_init_11 : decode cX0_init 11 = .ok (.iload 6, 2) := by decide +kernel
theorem dX0_init_13 : decode cX0_init 13 = .ok (.putfield 15, 3) := by decide +kernel
theorem dX0_init_16 : decode cX0_init 16 = .ok (.aload_n 0, 1) := by decide +kernel
theorem dX0_init_17 : decode cX0_init 17 = .ok (.iconst 0, 1) := by decide +kernel
theorem dX0_init_18 : decode cX0_init 18 = .ok (.iload_n 1, 1) := by decide +kernel
theorem dX0_init_19 : decode cX0_init 19 = .ok (.bipush 120, 2) := by decide +kernel
theorem dX0_init_21 : decode cX0_init 21 = .ok (.invokestatic 18, 3) := by decide +kernel
theorem dX0_init_24 : decode cX0_init 24 = .ok (.invokestatic 24, 3) := by decide +kernel
theorem dX0_init_27 : decode cX0_init 27 = .ok (.putfield 27, 3) := by decide +kernel
theorem dX0_init_30 : decode cX0_init 30 = .ok (.aload_n 0, 1) := by decide +kernel
theorem dX0_init_31 : decode cX0_init 31 = .ok (.bipush 120, 2) := by decide +kernel
theorem dX0_init_33 : decode cX0_init 33 = .ok (.newarray .int, 2) := by decide +kernel
theorem dX0_init_35 : decode cX0_init 35 = .ok (.putfield 30, 3) := by decide +kernel
theorem dX0_init_38 : decode cX0_init 38 = .ok (.aload_n 0, 1) := by decide +kernel
theorem dX0_init_39 : decode cX0_init 39 = .ok (.bipush 121, 2) := by decide +kernel
theorem dX0_init_41 : decode cX0_init 41 = .ok (.newarray .int, 2) := by decide +kernel
theorem dX0_init_43 : decode cX0_init 43 = .ok (.putfield 34, 3) := by decide +kernel
theorem dX0_init_46 : decode cX0_init 46 = .ok (.iload_n 3, 1) := by decide +kernel
theorem dX0_init_47 : decode cX0_init 47 = .ok (.istore 8, 2) := by decide +kernel
theorem dX0_init_49 : decode cX0_init 49 = .ok (.iload 8, 2) := by decide +kernel
theorem dX0_init_51 : decode cX0_init 51 = .ok (.aload_n 0, 1) := by decide +kernel
theorem dX0_init_52 : decode cX0_init 52 = .ok (.getfield 27, 3) := by decide +kernel
theorem dX0_init_55 : decode cX0_init 55 = .ok (.if_icmp .ge 26, 3) := by decide +kernel
theorem dX0_init_58 : decode cX0_init 58 = .ok (.aload_n 0, 1) := by decide +kernel
theorem dX0_init_59 : decode cX0_init 59 = .ok (.getfield 30, 3) := by decide +kernel
theorem dX0_init_62 : decode cX0_init 62 = .ok (.iload 8, 2) := by decide +kernel
theorem dX0_init_64 : decode cX0_init 64 = .ok (.iload_n 2, 1) := by decide +kernel
theorem dX0_init_65 : decode cX0_init 65 = .ok (.iload 4, 2) := by decide +kernel
theorem dX0_init_67 : decode cX0_init 67 = .ok (.iload 8, 2) := by decide +kernel
theorem dX0_init_69 : decode cX0_init 69 = .ok (.bipush 12, 2) := by decide +kernel
theorem dX0_init_71 : decode cX0_init 71 = .ok (.idiv, 1) := by decide +kernel
theorem dX0_init_72 : decode cX0_init 72 = .ok (.imul, 1) := by decide +kernel
theorem dX0_init_73 : decode cX0_init 73 = .ok (.iadd, 1) := by decide +kernel
theorem dX0_init_74 : decode cX0_init 74 = .ok (.iastore, 1) := by decide +kernel
theorem dX0_init_75 : decode cX0_init 75 = .ok (.iinc 8 1, 3) := by decide +kernel
theorem dX0_init_78 : decode cX0_init 78 = .ok (.goto (-29), 3) := by decide +kernel
theorem dX0_init_81 : decode cX0_init 81 = .ok (.aload_n 0, 1) := by decide +kernel
theorem dX0_init_82 : decode cX0_init 82 = .ok (.invokevirtual 37, 3) := by decide +kernel
theorem dX0_init_85 : decode cX0_init 85 = .ok (.aload_n 0, 1) := by decide +kernel
theorem dX0_init_86 : decode cX0_init 86 = .ok (.aload_n 0, 1) := by decide +kernel
theorem dX0_init_87 : decode cX0_init 87 = .ok (.invokevirtual 40, 3) := by decide +kernel
theorem dX0_init_90 : decode cX0_init 90 = .ok (.i2l, 1) := by decide +kernel
theorem dX0_init_91 : decode cX0_init 91 = .ok (.iload 7, 2) := by decide +kernel
theorem dX0_init_93 : decode cX0_init 93 = .ok (.i2l, 1) := by decide +kernel
theorem dX0_init_94 : decode cX0_init 94 = .ok (.ladd, 1) := by decide +kernel
theorem dX0_init_95 : decode cX0_init 95 = .ok (.putfield 44, 3) := by decide +kernel
theorem dX0_init_98 : decode cX0_init 98 = .ok (.return_, 1) := by decide +kernel
theorem dX0_monthsLeft_0 : decode cX0_monthsLeft 0 = .ok (.aload_n 0, 1) := by decide +kernel
theorem dX0_monthsLeft_1 : decode cX0_monthsLeft 1 = .ok (.getfield 27, 3) := by decide +kernel
theorem dX0_monthsLeft_4 : decode cX0_monthsLeft 4 = .ok (.aload_n 0, 1) := by decide +kernel
theorem dX0_monthsLeft_5 : decode cX0_monthsLeft 5 = .ok (.getfield 48, 3) := by decide +kernel
theorem dX0_monthsLeft_8 : decode cX0_monthsLeft 8 = .ok (.isub, 1) := by decide +kernel
theorem dX0_monthsLeft_9 : decode cX0_monthsLeft 9 = .ok (.ireturn, 1) := by decide +kernel
theorem dX0_debtNow_0 : decode cX0_debtNow 0 = .ok (.aload_n 0, 1) := by decide +kernel
theorem dX0_debtNow_1 : decode cX0_debtNow 1 = .ok (.getfield 34, 3) := by decide +kernel
theorem dX0_debtNow_4 : decode cX0_debtNow 4 = .ok (.aload_n 0, 1) := by decide +kernel
theorem dX0_debtNow_5 : decode cX0_debtNow 5 = .ok (.getfield 48, 3) := by decide +kernel
theorem dX0_debtNow_8 : decode cX0_debtNow 8 = .ok (.iaload, 1) := by decide +kernel
theorem dX0_debtNow_9 : decode cX0_debtNow 9 = .ok (.ireturn, 1) := by decide +kernel
theorem dX0_paymentIn_0 : decode cX0_paymentIn 0 = .ok (.aload_n 0, 1) := by decide +kernel
theorem dX0_paymentIn_1 : decode cX0_paymentIn 1 = .ok (.getfield 30, 3) := by decide +kernel
theorem dX0_paymentIn_4 : decode cX0_paymentIn 4 = .ok (.aload_n 0, 1) := by decide +kernel
theorem dX0_paymentIn_5 : decode cX0_paymentIn 5 = .ok (.getfield 48, 3) := by decide +kernel
theorem dX0_paymentIn_8 : decode cX0_paymentIn 8 = .ok (.iload_n 1, 1) := by decide +kernel
theorem dX0_paymentIn_9 : decode cX0_paymentIn 9 = .ok (.iadd, 1) := by decide +kernel
theorem dX0_paymentIn_10 : decode cX0_paymentIn 10 = .ok (.iaload, 1) := by decide +kernel
theorem dX0_paymentIn_11 : decode cX0_paymentIn 11 = .ok (.ireturn, 1) := by decide +kernel
theorem dX0_hasRoomFor_0 : decode cX0_hasRoomFor 0 = .ok (.aload_n 0, 1) := by decide +kernel
theorem dX0_hasRoomFor_1 : decode cX0_hasRoomFor 1 = .ok (.getfield 27, 3) := by decide +kernel
theorem dX0_hasRoomFor_4 : decode cX0_hasRoomFor 4 = .ok (.iload_n 1, 1) := by decide +kernel
theorem dX0_hasRoomFor_5 : decode cX0_hasRoomFor 5 = .ok (.iadd, 1) := by decide +kernel
theorem dX0_hasRoomFor_6 : decode cX0_hasRoomFor 6 = .ok (.bipush 120, 2) := by decide +kernel
theorem dX0_hasRoomFor_8 : decode cX0_hasRoomFor 8 = .ok (.if_icmp .gt 7, 3) := by decide +kernel
theorem dX0_hasRoomFor_11 : decode cX0_hasRoomFor 11 = .ok (.iconst 1, 1) := by decide +kernel
theorem dX0_hasRoomFor_12 : decode cX0_hasRoomFor 12 = .ok (.goto 4, 3) := by decide +kernel
theorem dX0_hasRoomFor_15 : decode cX0_hasRoomFor 15 = .ok (.iconst 0, 1) := by decide +kernel
theorem dX0_hasRoomFor_16 : decode cX0_hasRoomFor 16 = .ok (.ireturn, 1) := by decide +kernel
set_option maxRecDepth 20000 in
theorem ggX0_worthAt_X0_worthBefore : GoodIn wsX0_worthAt wsX0_worthBefore := goodIn_r _ [7, 8] (by decide +kernel) (by decide +kernel)
set_option maxRecDepth 20000 in
theorem gX0_worthAt_X0_worthBefore : GoodIn wsX0_worthAt (va_wsS RX0 51 yX0_worthBefore wsX0_worthBefore) := goodIn_app (goodIn_of _ (by decide +kernel)) ggX0_worthAt_X0_worthBefore
theorem dX0_worthAt_0 : decode cX0_worthAt 0 = .ok (.lconst 0, 1) := by decide +kernel
theorem dX0_worthAt_1 : decode cX0_worthAt 1 = .ok (.lstore_n 2, 1) := by decide +kernel
theorem dX0_worthAt_2 : decode cX0_worthAt 2 = .ok (.aload_n 0, 1) := by decide +kernel
theorem dX0_worthAt_3 : decode cX0_worthAt 3 = .ok (.getfield 27, 3) := by decide +kernel
theorem dX0_worthAt_6 : decode cX0_worthAt 6 = .ok (.iconst 1, 1) := by decide +kernel
theorem dX0_worthAt_7 : decode cX0_worthAt 7 = .ok (.isub, 1) := by decide +kernel
theorem dX0_worthAt_8 : decode cX0_worthAt 8 = .ok (.istore 4, 2) := by decide +kernel
theorem dX0_worthAt_10 : decode cX0_worthAt 10 = .ok (.iload 4, 2) := by decide +kernel
theorem dX0_worthAt_12 : decode cX0_worthAt 12 = .ok (.aload_n 0, 1) := by decide +kernel
theorem dX0_worthAt_13 : decode cX0_worthAt 13 = .ok (.getfield 48, 3) := by decide +kernel
theorem dX0_worthAt_16 : decode cX0_worthAt 16 = .ok (.if_icmp .lt 24, 3) := by decide +kernel
theorem dX0_worthAt_19 : decode cX0_worthAt 19 = .ok (.lload_n 2, 1) := by decide +kernel
theorem dX0_worthAt_20 : decode cX0_worthAt 20 = .ok (.aload_n 0, 1) := by decide +kernel
theorem dX0_worthAt_21 : decode cX0_worthAt 21 = .ok (.getfield 30, 3) := by decide +kernel
theorem dX0_worthAt_24 : decode cX0_worthAt 24 = .ok (.iload 4, 2) := by decide +kernel
theorem dX0_worthAt_26 : decode cX0_worthAt 26 = .ok (.iaload, 1) := by decide +kernel
theorem dX0_worthAt_27 : decode cX0_worthAt 27 = .ok (.i2l, 1) := by decide +kernel
theorem dX0_worthAt_28 : decode cX0_worthAt 28 = .ok (.ladd, 1) := by decide +kernel
theorem dX0_worthAt_29 : decode cX0_worthAt 29 = .ok (.iload_n 1, 1) := by decide +kernel
theorem dX0_worthAt_30 : decode cX0_worthAt 30 = .ok (.invokestatic 51, 3) := by decide +kernel
theorem dX0_worthAt_33 : decode cX0_worthAt 33 = .ok (.lstore_n 2, 1) := by decide +kernel
theorem dX0_worthAt_34 : decode cX0_worthAt 34 = .ok (.iinc 4 (-1), 3) := by decide +kernel
theorem dX0_worthAt_37 : decode cX0_worthAt 37 = .ok (.goto (-27), 3) := by decide +kernel
theorem dX0_worthAt_40 : decode cX0_worthAt 40 = .ok (.lload_n 2, 1) := by decide +kernel
theorem dX0_worthAt_41 : decode cX0_worthAt 41 = .ok (.lreturn, 1) := by decide +kernel
theorem dX0_worthBefore_0 : decode cX0_worthBefore 0 = .ok (.ldc2_w 55, 3) := by decide +kernel
theorem dX0_worthBefore_3 : decode cX0_worthBefore 3 = .ok (.iload_n 2, 1) := by decide +kernel
theorem dX0_worthBefore_4 : decode cX0_worthBefore 4 = .ok (.i2l, 1) := by decide +kernel
theorem dX0_worthBefore_5 : decode cX0_worthBefore 5 = .ok (.ladd, 1) := by decide +kernel
theorem dX0_worthBefore_6 : decode cX0_worthBefore 6 = .ok (.lstore_n 3, 1) := by decide +kernel
theorem dX0_worthBefore_7 : decode cX0_worthBefore 7 = .ok (.lload_n 3, 1) := by decide +kernel
theorem dX0_worthBefore_8 : decode cX0_worthBefore 8 = .ok (.lconst 1, 1) := by decide +kernel
theorem dX0_worthBefore_9 : decode cX0_worthBefore 9 = .ok (.lcmp, 1) := by decide +kernel
theorem dX0_worthBefore_10 : decode cX0_worthBefore 10 = .ok (.ifCond .ge 7, 3) := by decide +kernel
theorem dX0_worthBefore_13 : decode cX0_worthBefore 13 = .ok (.lconst 0, 1) := by decide +kernel
theorem dX0_worthBefore_14 : decode cX0_worthBefore 14 = .ok (.goto 14, 3) := by decide +kernel
theorem dX0_worthBefore_17 : decode cX0_worthBefore 17 = .ok (.lload_n 0, 1) := by decide +kernel
theorem dX0_worthBefore_18 : decode cX0_worthBefore 18 = .ok (.ldc2_w 55, 3) := by decide +kernel
theorem dX0_worthBefore_21 : decode cX0_worthBefore 21 = .ok (.lmul, 1) := by decide +kernel
theorem dX0_worthBefore_22 : decode cX0_worthBefore 22 = .ok (.lload_n 3, 1) := by decide +kernel
theorem dX0_worthBefore_23 : decode cX0_worthBefore 23 = .ok (.ladd, 1) := by decide +kernel
theorem dX0_worthBefore_24 : decode cX0_worthBefore 24 = .ok (.lconst 1, 1) := by decide +kernel
theorem dX0_worthBefore_25 : decode cX0_worthBefore 25 = .ok (.lsub, 1) := by decide +kernel
theorem dX0_worthBefore_26 : decode cX0_worthBefore 26 = .ok (.lload_n 3, 1) := by decide +kernel
theorem dX0_worthBefore_27 : decode cX0_worthBefore 27 = .ok (.ldiv, 1) := by decide +kernel
theorem dX0_worthBefore_28 : decode cX0_worthBefore 28 = .ok (.lreturn, 1) := by decide +kernel
set_option maxRecDepth 20000 in
theorem ggX0_layDebts_X0_worthBefore : GoodIn wsX0_layDebts wsX0_worthBefore := goodIn_r _ [9, 10] (by decide +kernel) (by decide +kernel)
set_option maxRecDepth 20000 in
theorem gX0_layDebts_X0_worthBefore : GoodIn wsX0_layDebts (va_wsS RX0 51 yX0_worthBefore wsX0_worthBefore) := goodIn_app (goodIn_of _ (by decide +kernel)) ggX0_layDebts_X0_worthBefore
theorem dX0_layDebts_0 : decode cX0_layDebts 0 = .ok (.aload_n 0, 1) := by decide +kernel
theorem dX0_layDebts_1 : decode cX0_layDebts 1 = .ok (.getfield 34, 3) := by decide +kernel
theorem dX0_layDebts_4 : decode cX0_layDebts 4 = .ok (.aload_n 0, 1) := by decide +kernel
theorem dX0_layDebts_5 : decode cX0_layDebts 5 = .ok (.getfield 27, 3) := by decide +kernel
theorem dX0_layDebts_8 : decode cX0_layDebts 8 = .ok (.iconst 0, 1) := by decide +kernel
theorem dX0_layDebts_9 : decode cX0_layDebts 9 = .ok (.iastore, 1) := by decide +kernel
theorem dX0_layDebts_10 : decode cX0_layDebts 10 = .ok (.aload_n 0, 1) := by decide +kernel
theorem dX0_layDebts_11 : decode cX0_layDebts 11 = .ok (.getfield 27, 3) := by decide +kernel
theorem dX0_layDebts_14 : decode cX0_layDebts 14 = .ok (.iconst 1, 1) := by decide +kernel
theorem dX0_layDebts_15 : decode cX0_layDebts 15 = .ok (.isub, 1) := by decide +kernel
theorem dX0_layDebts_16 : decode cX0_layDebts 16 = .ok (.istore_n 1, 1) := by decide +kernel
theorem dX0_layDebts_17 : decode cX0_layDebts 17 = .ok (.iload_n 1, 1) := by decide +kernel
theorem dX0_layDebts_18 : decode cX0_layDebts 18 = .ok (.aload_n 0, 1) := by decide +kernel
theorem dX0_layDebts_19 : decode cX0_layDebts 19 = .ok (.getfield 48, 3) := by decide +kernel
theorem dX0_layDebts_22 : decode cX0_layDebts 22 = .ok (.if_icmp .lt 40, 3) := by decide +kernel
theorem dX0_layDebts_25 : decode cX0_layDebts 25 = .ok (.aload_n 0, 1) := by decide +kernel
theorem dX0_layDebts_26 : decode cX0_layDebts 26 = .ok (.getfield 34, 3) := by decide +kernel
theorem dX0_layDebts_29 : decode cX0_layDebts 29 = .ok (.iload_n 1, 1) := by decide +kernel
theorem dX0_layDebts_30 : decode cX0_layDebts 30 = .ok (.aload_n 0, 1) := by decide +kernel
theorem dX0_layDebts_31 : decode cX0_layDebts 31 = .ok (.getfield 34, 3) := by decide +kernel
theorem dX0_layDebts_34 : decode cX0_layDebts 34 = .ok (.iload_n 1, 1) := by decide +kernel
theorem dX0_layDebts_35 : decode cX0_layDebts 35 = .ok (.iconst 1, 1) := by decide +kernel
theorem dX0_layDebts_36 : decode cX0_layDebts 36 = .ok (.iadd, 1) := by decide +kernel
theorem dX0_layDebts_37 : decode cX0_layDebts 37 = .ok (.iaload, 1) := by decide +kernel
theorem dX0_layDebts_38 : decode cX0_layDebts 38 = .ok (.i2l, 1) := by decide +kernel
theorem dX0_layDebts_39 : decode cX0_layDebts 39 = .ok (.aload_n 0, 1) := by decide +kernel
theorem dX0_layDebts_40 : decode cX0_layDebts 40 = .ok (.getfield 30, 3) := by decide +kernel
theorem dX0_layDebts_43 : decode cX0_layDebts 43 = .ok (.iload_n 1, 1) := by decide +kernel
theorem dX0_layDebts_44 : decode cX0_layDebts 44 = .ok (.iaload, 1) := by decide +kernel
theorem dX0_layDebts_45 : decode cX0_layDebts 45 = .ok (.i2l, 1) := by decide +kernel
theorem dX0_layDebts_46 : decode cX0_layDebts 46 = .ok (.ladd, 1) := by decide +kernel
theorem dX0_layDebts_47 : decode cX0_layDebts 47 = .ok (.aload_n 0, 1) := by decide +kernel
theorem dX0_layDebts_48 : decode cX0_layDebts 48 = .ok (.getfield 9, 3) := by decide +kernel
theorem dX0_layDebts_51 : decode cX0_layDebts 51 = .ok (.invokestatic 51, 3) := by decide +kernel
theorem dX0_layDebts_54 : decode cX0_layDebts 54 = .ok (.l2i, 1) := by decide +kernel
theorem dX0_layDebts_55 : decode cX0_layDebts 55 = .ok (.iastore, 1) := by decide +kernel
theorem dX0_layDebts_56 : decode cX0_layDebts 56 = .ok (.iinc 1 (-1), 3) := by decide +kernel
theorem dX0_layDebts_59 : decode cX0_layDebts 59 = .ok (.goto (-42), 3) := by decide +kernel
theorem dX0_layDebts_62 : decode cX0_layDebts 62 = .ok (.return_, 1) := by decide +kernel
set_option maxRecDepth 20000 in
theorem ggX0_endsWithin_X0_monthsLeft : GoodIn wsX0_endsWithin wsX0_monthsLeft := goodIn_r _ [9, 10, 11, 30, 31, 32, 33, 34, 35, 36, 37, 38, 39, 40] (by decide +kernel) (by decide +kernel)
set_option maxRecDepth 20000 in
theorem gX0_endsWithin_X0_monthsLeft : GoodIn wsX0_endsWithin (wsV RX0 57 RX0 yX0_monthsLeft wsX0_monthsLeft) := goodIn_app (goodIn_of _ (by decide +kernel)) ggX0_endsWithin_X0_monthsLeft
set_option maxRecDepth 20000 in
theorem ggX0_endsWithin_X0_passOneMonth : GoodIn wsX0_endsWithin wsX0_passOneMonth := goodIn_r _ [15, 16, 11, 17, 18, 19, 20, 21, 22, 23, 24, 8, 25, 10, 26, 1, 2, 3, 4, 27, 28, 29, 30, 31, 32, 33, 34, 35, 36, 37, 38, 39, 40] (by decide +kernel) (by decide +kernel)
set_option maxRecDepth 20000 in
theorem gX0_endsWithin_X0_passOneMonth : GoodIn wsX0_endsWithin (wsV RX0 60 RX0 yX0_passOneMonth wsX0_passOneMonth) := goodIn_app (goodIn_of _ (by decide +kernel)) ggX0_endsWithin_X0_passOneMonth
theorem dX0_endsWithin_0 : decode cX0_endsWithin 0 = .ok (.iload_n 1, 1) := by decide +kernel
theorem dX0_endsWithin_1 : decode cX0_endsWithin 1 = .ok (.aload_n 0, 1) := by decide +kernel
theorem dX0_endsWithin_2 : decode cX0_endsWithin 2 = .ok (.invokevirtual 57, 3) := by decide +kernel
theorem dX0_endsWithin_5 : decode cX0_endsWithin 5 = .ok (.invokestatic 18, 3) := by decide +kernel
theorem dX0_endsWithin_8 : decode cX0_endsWithin 8 = .ok (.istore_n 2, 1) := by decide +kernel
theorem dX0_endsWithin_9 : decode cX0_endsWithin 9 = .ok (.iconst 0, 1) := by decide +kernel
theorem dX0_endsWithin_10 : decode cX0_endsWithin 10 = .ok (.istore_n 3, 1) := by decide +kernel
theorem dX0_endsWithin_11 : decode cX0_endsWithin 11 = .ok (.iload_n 3, 1) := by decide +kernel
theorem dX0_endsWithin_12 : decode cX0_endsWithin 12 = .ok (.iload_n 2, 1) := by decide +kernel
theorem dX0_endsWithin_13 : decode cX0_endsWithin 13 = .ok (.if_icmp .ge 13, 3) := by decide +kernel
theorem dX0_endsWithin_16 : decode cX0_endsWithin 16 = .ok (.aload_n 0, 1) := by decide +kernel
theorem dX0_endsWithin_17 : decode cX0_endsWithin 17 = .ok (.invokevirtual 60, 3) := by decide +kernel
theorem dX0_endsWithin_20 : decode cX0_endsWithin 20 = .ok (.iinc 3 1, 3) := by decide +kernel
theorem dX0_endsWithin_23 : decode cX0_endsWithin 23 = .ok (.goto (-12), 3) := by decide +kernel
theorem dX0_endsWithin_26 : decode cX0_endsWithin 26 = .ok (.iload_n 2, 1) := by decide +kernel
theorem dX0_endsWithin_27 : decode cX0_endsWithin 27 = .ok (.ifCond .le 14, 3) := by decide +kernel
theorem dX0_endsWithin_30 : decode cX0_endsWithin 30 = .ok (.aload_n 0, 1) := by decide +kernel
theorem dX0_endsWithin_31 : decode cX0_endsWithin 31 = .ok (.invokevirtual 57, 3) := by decide +kernel
theorem dX0_endsWithin_34 : decode cX0_endsWithin 34 = .ok (.ifCond .ne 7, 3) := by decide +kernel
theorem dX0_endsWithin_37 : decode cX0_endsWithin 37 = .ok (.iconst 1, 1) := by decide +kernel
theorem dX0_endsWithin_38 : decode cX0_endsWithin 38 = .ok (.goto 4, 3) := by decide +kernel
theorem dX0_endsWithin_41 : decode cX0_endsWithin 41 = .ok (.iconst 0, 1) := by decide +kernel
theorem dX0_endsWithin_42 : decode cX0_endsWithin 42 = .ok (.ireturn, 1) := by decide +kernel
set_option maxRecDepth 20000 in
theorem ggX0_passOneMonth_X0_monthsToWriteOver : GoodIn wsX0_passOneMonth wsX0_monthsToWriteOver := goodIn_r _ [12, 13, 2, 14, 15, 16, 17, 18, 19, 20, 21, 22, 23, 24, 25, 26, 27, 28, 29, 30, 31, 32] (by decide +kernel) (by decide +kernel)
set_option maxRecDepth 20000 in
theorem gX0_passOneMonth_X0_monthsToWriteOver : GoodIn wsX0_passOneMonth (wsV RX0 69 RX0 yX0_monthsToWriteOver wsX0_monthsToWriteOver) := goodIn_app (goodIn_of _ (by decide +kernel)) ggX0_passOneMonth_X0_monthsToWriteOver
theorem dX0_passOneMonth_0 : decode cX0_passOneMonth 0 = .ok (.aload_n 0, 1) := by decide +kernel
theorem dX0_passOneMonth_1 : decode cX0_passOneMonth 1 = .ok (.getfield 30, 3) := by decide +kernel
theorem dX0_passOneMonth_4 : decode cX0_passOneMonth 4 = .ok (.aload_n 0, 1) := by decide +kernel
theorem dX0_passOneMonth_5 : decode cX0_passOneMonth 5 = .ok (.getfield 48, 3) := by decide +kernel
theorem dX0_passOneMonth_8 : decode cX0_passOneMonth 8 = .ok (.iaload, 1) := by decide +kernel
theorem dX0_passOneMonth_9 : decode cX0_passOneMonth 9 = .ok (.istore_n 1, 1) := by decide +kernel
theorem dX0_passOneMonth_10 : decode cX0_passOneMonth 10 = .ok (.aload_n 0, 1) := by decide +kernel
theorem dX0_passOneMonth_11 : decode cX0_passOneMonth 11 = .ok (.dup, 1) := by decide +kernel
theorem dX0_passOneMonth_12 : decode cX0_passOneMonth 12 = .ok (.getfield 63, 3) := by decide +kernel
theorem dX0_passOneMonth_15 : decode cX0_passOneMonth 15 = .ok (.aload_n 0, 1) := by decide +kernel
theorem dX0_passOneMonth_16 : decode cX0_passOneMonth 16 = .ok (.getfield 34, 3) := by decide +kernel
theorem dX0_passOneMonth_19 : decode cX0_passOneMonth 19 = .ok (.aload_n 0, 1) := by decide +kernel
theorem dX0_passOneMonth_20 : decode cX0_passOneMonth 20 = .ok (.getfield 48, 3) := by decide +kernel
theorem dX0_passOneMonth_23 : decode cX0_passOneMonth 23 = .ok (.iconst 1, 1) := by decide +kernel
theorem dX0_passOneMonth_24 : decode cX0_passOneMonth 24 = .ok (.iadd, 1) := by decide +kernel
theorem dX0_passOneMonth_25 : decode cX0_passOneMonth 25 = .ok (.iaload, 1) := by decide +kernel
theorem dX0_passOneMonth_26 : decode cX0_passOneMonth 26 = .ok (.iload_n 1, 1) := by decide +kernel
theorem dX0_passOneMonth_27 : decode cX0_passOneMonth 27 = .ok (.iadd, 1) := by decide +kernel
theorem dX0_passOneMonth_28 : decode cX0_passOneMonth 28 = .ok (.aload_n 0, 1) := by decide +kernel
theorem dX0_passOneMonth_29 : decode cX0_passOneMonth 29 = .ok (.getfield 34, 3) := by decide +kernel
theorem dX0_passOneMonth_32 : decode cX0_passOneMonth 32 = .ok (.aload_n 0, 1) := by decide +kernel
theorem dX0_passOneMonth_33 : decode cX0_passOneMonth 33 = .ok (.getfield 48, 3) := by decide +kernel
theorem dX0_passOneMonth_36 : decode cX0_passOneMonth 36 = .ok (.iaload, 1) := by decide +kernel
theorem dX0_passOneMonth_37 : decode cX0_passOneMonth 37 = .ok (.isub, 1) := by decide +kernel
theorem dX0_passOneMonth_38 : decode cX0_passOneMonth 38 = .ok (.i2l, 1) := by decide +kernel
theorem dX0_passOneMonth_39 : decode cX0_passOneMonth 39 = .ok (.ladd, 1) := by decide +kernel
theorem dX0_passOneMonth_40 : decode cX0_passOneMonth 40 = .ok (.putfield 63, 3) := by decide +kernel
theorem dX0_passOneMonth_43 : decode cX0_passOneMonth 43 = .ok (.aload_n 0, 1) := by decide +kernel
theorem dX0_passOneMonth_44 : decode cX0_passOneMonth 44 = .ok (.dup, 1) := by decide +kernel
theorem dX0_passOneMonth_45 : decode cX0_passOneMonth 45 = .ok (.getfield 66, 3) := by decide +kernel
theorem dX0_passOneMonth_48 : decode cX0_passOneMonth 48 = .ok (.iload_n 1, 1) := by decide +kernel
theorem dX0_passOneMonth_49 : decode cX0_passOneMonth 49 = .ok (.i2l, 1) := by decide +kernel
theorem dX0_passOneMonth_50 : decode cX0_passOneMonth 50 = .ok (.ladd, 1) := by decide +kernel
theorem dX0_passOneMonth_51 : decode cX0_passOneMonth 51 = .ok (.putfield 66, 3) := by decide +kernel
theorem dX0_passOneMonth_54 : decode cX0_passOneMonth 54 = .ok (.aload_n 0, 1) := by decide +kernel
theorem dX0_passOneMonth_55 : decode cX0_passOneMonth 55 = .ok (.getfield 44, 3) := by decide +kernel
theorem dX0_passOneMonth_58 : decode cX0_passOneMonth 58 = .ok (.aload_n 0, 1) := by decide +kernel
theorem dX0_passOneMonth_59 : decode cX0_passOneMonth 59 = .ok (.invokevirtual 69, 3) := by decide +kernel
theorem dX0_passOneMonth_62 : decode cX0_passOneMonth 62 = .ok (.i2l, 1) := by decide +kernel
theorem dX0_passOneMonth_63 : decode cX0_passOneMonth 63 = .ok (.ldiv, 1) := by decide +kernel
theorem dX0_passOneMonth_64 : decode cX0_passOneMonth 64 = .ok (.lstore_n 2, 1) := by decide +kernel
theorem dX0_passOneMonth_65 : decode cX0_passOneMonth 65 = .ok (.aload_n 0, 1) := by decide +kernel
theorem dX0_passOneMonth_66 : decode cX0_passOneMonth 66 = .ok (.dup, 1) := by decide +kernel
theorem dX0_passOneMonth_67 : decode cX0_passOneMonth 67 = .ok (.getfield 72, 3) := by decide +kernel
theorem dX0_passOneMonth_70 : decode cX0_passOneMonth 70 = .ok (.lload_n 2, 1) := by decide +kernel
theorem dX0_passOneMonth_71 : decode cX0_passOneMonth 71 = .ok (.ladd, 1) := by decide +kernel
theorem dX0_passOneMonth_72 : decode cX0_passOneMonth 72 = .ok (.putfield 72, 3) := by decide +kernel
theorem dX0_passOneMonth_75 : decode cX0_passOneMonth 75 = .ok (.aload_n 0, 1) := by decide +kernel
theorem dX0_passOneMonth_76 : decode cX0_passOneMonth 76 = .ok (.dup, 1) := by decide +kernel
theorem dX0_passOneMonth_77 : decode cX0_passOneMonth 77 = .ok (.getfield 44, 3) := by decide +kernel
theorem dX0_passOneMonth_80 : decode cX0_passOneMonth 80 = .ok (.lload_n 2, 1) := by decide +kernel
theorem dX0_passOneMonth_81 : decode cX0_passOneMonth 81 = .ok (.lsub, 1) := by decide +kernel
theorem dX0_passOneMonth_82 : decode cX0_passOneMonth 82 = .ok (.putfield 44, 3) := by decide +kernel
theorem dX0_passOneMonth_85 : decode cX0_passOneMonth 85 = .ok (.aload_n 0, 1) := by decide +kernel
theorem dX0_passOneMonth_86 : decode cX0_passOneMonth 86 = .ok (.dup, 1) := by decide +kernel
theorem dX0_passOneMonth_87 : decode cX0_passOneMonth 87 = .ok (.getfield 48, 3) := by decide +kernel
theorem dX0_passOneMonth_90 : decode cX0_passOneMonth 90 = .ok (.iconst 1, 1) := by decide +kernel
theorem dX0_passOneMonth_91 : decode cX0_passOneMonth 91 = .ok (.iadd, 1) := by decide +kernel
theorem dX0_passOneMonth_92 : decode cX0_passOneMonth 92 = .ok (.putfield 48, 3) := by decide +kernel
theorem dX0_passOneMonth_95 : decode cX0_passOneMonth 95 = .ok (.return_, 1) := by decide +kernel
theorem dX0_monthsToWriteOver_0 : decode cX0_monthsToWriteOver 0 = .ok (.iconst 1, 1) := by decide +kernel
theorem dX0_monthsToWriteOver_1 : decode cX0_monthsToWriteOver 1 = .ok (.aload_n 0, 1) := by decide +kernel
theorem dX0_monthsToWriteOver_2 : decode cX0_monthsToWriteOver 2 = .ok (.getfield 27, 3) := by decide +kernel
theorem dX0_monthsToWriteOver_5 : decode cX0_monthsToWriteOver 5 = .ok (.aload_n 0, 1) := by decide +kernel
theorem dX0_monthsToWriteOver_6 : decode cX0_monthsToWriteOver 6 = .ok (.getfield 48, 3) := by decide +kernel
theorem dX0_monthsToWriteOver_9 : decode cX0_monthsToWriteOver 9 = .ok (.isub, 1) := by decide +kernel
theorem dX0_monthsToWriteOver_10 : decode cX0_monthsToWriteOver 10 = .ok (.aload_n 0, 1) := by decide +kernel
theorem dX0_monthsToWriteOver_11 : decode cX0_monthsToWriteOver 11 = .ok (.getfield 15, 3) := by decide +kernel
theorem dX0_monthsToWriteOver_14 : decode cX0_monthsToWriteOver 14 = .ok (.aload_n 0, 1) := by decide +kernel
theorem dX0_monthsToWriteOver_15 : decode cX0_monthsToWriteOver 15 = .ok (.getfield 48, 3) := by decide +kernel
theorem dX0_monthsToWriteOver_18 : decode cX0_monthsToWriteOver 18 = .ok (.isub, 1) := by decide +kernel
theorem dX0_monthsToWriteOver_19 : decode cX0_monthsToWriteOver 19 = .ok (.invokestatic 18, 3) := by decide +kernel
theorem dX0_monthsToWriteOver_22 : decode cX0_monthsToWriteOver 22 = .ok (.invokestatic 24, 3) := by decide +kernel
theorem dX0_monthsToWriteOver_25 : decode cX0_monthsToWriteOver 25 = .ok (.ireturn, 1) := by decide +kernel
set_option maxRecDepth 20000 in
theorem ggX0_wouldPassTheMost_X0_percentOf : GoodIn wsX0_wouldPassTheMost wsX0_percentOf := goodIn_r _ [8, 9] (by decide +kernel) (by decide +kernel)
set_option maxRecDepth 20000 in
theorem gX0_wouldPassTheMost_X0_percentOf : GoodIn wsX0_wouldPassTheMost (va_wsS RX0 75 yX0_percentOf wsX0_percentOf) := goodIn_app (goodIn_of _ (by decide +kernel)) ggX0_wouldPassTheMost_X0_percentOf
theorem dX0_wouldPassTheMost_0 : decode cX0_wouldPassTheMost 0 = .ok (.aload_n 0, 1) := by decide +kernel
theorem dX0_wouldPassTheMost_1 : decode cX0_wouldPassTheMost 1 = .ok (.getfield 48, 3) := by decide +kernel
theorem dX0_wouldPassTheMost_4 : decode cX0_wouldPassTheMost 4 = .ok (.istore_n 2, 1) := by decide +kernel
theorem dX0_wouldPassTheMost_5 : decode cX0_wouldPassTheMost 5 = .ok (.iload_n 2, 1) := by decide +kernel
theorem dX0_wouldPassTheMost_6 : decode cX0_wouldPassTheMost 6 = .ok (.aload_n 0, 1) := by decide +kernel
theorem dX0_wouldPassTheMost_7 : decode cX0_wouldPassTheMost 7 = .ok (.getfield 27, 3) := by decide +kernel
theorem dX0_wouldPassTheMost_10 : decode cX0_wouldPassTheMost 10 = .ok (.if_icmp .ge 29, 3) := by decide +kernel
theorem dX0_wouldPassTheMost_13 : decode cX0_wouldPassTheMost 13 = .ok (.aload_n 0, 1) := by decide +kernel
theorem dX0_wouldPassTheMost_14 : decode cX0_wouldPassTheMost 14 = .ok (.getfield 30, 3) := by decide +kernel
theorem dX0_wouldPassTheMost_17 : decode cX0_wouldPassTheMost 17 = .ok (.iload_n 2, 1) := by decide +kernel
theorem dX0_wouldPassTheMost_18 : decode cX0_wouldPassTheMost 18 = .ok (.iaload, 1) := by decide +kernel
theorem dX0_wouldPassTheMost_19 : decode cX0_wouldPassTheMost 19 = .ok (.i2l, 1) := by decide +kernel
theorem dX0_wouldPassTheMost_20 : decode cX0_wouldPassTheMost 20 = .ok (.iload_n 1, 1) := by decide +kernel
theorem dX0_wouldPassTheMost_21 : decode cX0_wouldPassTheMost 21 = .ok (.invokestatic 75, 3) := by decide +kernel
theorem dX0_wouldPassTheMost_24 : decode cX0_wouldPassTheMost 24 = .ok (.ldc2_w 55, 3) := by decide +kernel
theorem dX0_wouldPassTheMost_27 : decode cX0_wouldPassTheMost 27 = .ok (.lcmp, 1) := by decide +kernel
theorem dX0_wouldPassTheMost_28 : decode cX0_wouldPassTheMost 28 = .ok (.ifCond .le 5, 3) := by decide +kernel
theorem dX0_wouldPassTheMost_31 : decode cX0_wouldPassTheMost 31 = .ok (.iconst 1, 1) := by decide +kernel
theorem dX0_wouldPassTheMost_32 : decode cX0_wouldPassTheMost 32 = .ok (.ireturn, 1) := by decide +kernel
theorem dX0_wouldPassTheMost_33 : decode cX0_wouldPassTheMost 33 = .ok (.iinc 2 1, 3) := by decide +kernel
theorem dX0_wouldPassTheMost_36 : decode cX0_wouldPassTheMost 36 = .ok (.goto (-31), 3) := by decide +kernel
theorem dX0_wouldPassTheMost_39 : decode cX0_wouldPassTheMost 39 = .ok (.iconst 0, 1) := by decide +kernel
theorem dX0_wouldPassTheMost_40 : decode cX0_wouldPassTheMost 40 = .ok (.ireturn, 1) := by decide +kernel
set_option maxRecDepth 20000 in
theorem ggX0_reviewPayments_X0_scalePayments : GoodIn wsX0_reviewPayments wsX0_scalePayments := goodIn_r _ [5, 6, 7, 8, 9, 10, 4, 11, 12, 33, 34, 35, 36, 37, 38, 39, 40, 41, 42, 43] (by decide +kernel) (by decide +kernel)
set_option maxRecDepth 20000 in
theorem gX0_reviewPayments_X0_scalePayments : GoodIn wsX0_reviewPayments (wsV RX0 78 RX0 yX0_scalePayments wsX0_scalePayments) := goodIn_app (goodIn_of _ (by decide +kernel)) ggX0_reviewPayments_X0_scalePayments
set_option maxRecDepth 20000 in
theorem ggX0_reviewPayments_X0_followDebt : GoodIn wsX0_reviewPayments wsX0_followDebt := goodIn_r _ [16, 17, 18, 19, 20, 21, 4, 22, 23, 6, 24, 25, 26, 27, 7, 8, 28, 29, 30, 31, 32, 33, 34, 35, 36, 37, 38, 39, 40, 41, 42, 43] (by decide +kernel) (by decide +kernel)
set_option maxRecDepth 20000 in
theorem gX0_reviewPayments_X0_followDebt : GoodIn wsX0_reviewPayments (wsV RX0 82 RX0 yX0_followDebt wsX0_followDebt) := goodIn_app (goodIn_of _ (by decide +kernel)) ggX0_reviewPayments_X0_followDebt
theorem dX0_reviewPayments_0 : decode cX0_reviewPayments 0 = .ok (.aload_n 0, 1) := by decide +kernel
theorem dX0_reviewPayments_1 : decode cX0_reviewPayments 1 = .ok (.iload_n 1, 1) := by decide +kernel
theorem dX0_reviewPayments_2 : decode cX0_reviewPayments 2 = .ok (.invokevirtual 78, 3) := by decide +kernel
theorem dX0_reviewPayments_5 : decode cX0_reviewPayments 5 = .ok (.aload_n 0, 1) := by decide +kernel
theorem dX0_reviewPayments_6 : decode cX0_reviewPayments 6 = .ok (.invokevirtual 82, 3) := by decide +kernel
theorem dX0_reviewPayments_9 : decode cX0_reviewPayments 9 = .ok (.return_, 1) := by decide +kernel
set_option maxRecDepth 20000 in
theorem ggX0_putBehind_X0_followDebt : GoodIn wsX0_putBehind wsX0_followDebt := goodIn_r _ [11, 12, 13, 14, 15, 16, 10, 17, 18, 19, 20, 21, 22, 23, 1, 6, 24, 25, 26, 27, 28, 29, 30, 31, 32, 33, 34, 35, 36, 37, 38, 39] (by decide +kernel) (by decide +kernel)
set_option maxRecDepth 20000 in
theorem gX0_putBehind_X0_followDebt : GoodIn wsX0_putBehind (wsV RX0 82 RX0 yX0_followDebt wsX0_followDebt) := goodIn_app (goodIn_of _ (by decide +kernel)) ggX0_putBehind_X0_followDebt
theorem dX0_putBehind_0 : decode cX0_putBehind 0 = .ok (.aload_n 0, 1) := by decide +kernel
theorem dX0_putBehind_1 : decode cX0_putBehind 1 = .ok (.getfield 27, 3) := by decide +kernel
theorem dX0_putBehind_4 : decode cX0_putBehind 4 = .ok (.iload_n 1, 1) := by decide +kernel
theorem dX0_putBehind_5 : decode cX0_putBehind 5 = .ok (.iadd, 1) := by decide +kernel
theorem dX0_putBehind_6 : decode cX0_putBehind 6 = .ok (.bipush 120, 2) := by decide +kernel
theorem dX0_putBehind_8 : decode cX0_putBehind 8 = .ok (.invokestatic 18, 3) := by decide +kernel
theorem dX0_putBehind_11 : decode cX0_putBehind 11 = .ok (.istore_n 3, 1) := by decide +kernel
theorem dX0_putBehind_12 : decode cX0_putBehind 12 = .ok (.aload_n 0, 1) := by decide +kernel
theorem dX0_putBehind_13 : decode cX0_putBehind 13 = .ok (.getfield 27, 3) := by decide +kernel
theorem dX0_putBehind_16 : decode cX0_putBehind 16 = .ok (.istore 4, 2) := by decide +kernel
theorem dX0_putBehind_18 : decode cX0_putBehind 18 = .ok (.iload 4, 2) := by decide +kernel
theorem dX0_putBehind_20 : decode cX0_putBehind 20 = .ok (.iload_n 3, 1) := by decide +kernel
theorem dX0_putBehind_21 : decode cX0_putBehind 21 = .ok (.if_icmp .ge 17, 3) := by decide +kernel
theorem dX0_putBehind_24 : decode cX0_putBehind 24 = .ok (.aload_n 0, 1) := by decide +kernel
theorem dX0_putBehind_25 : decode cX0_putBehind 25 = .ok (.getfield 30, 3) := by decide +kernel
theorem dX0_putBehind_28 : decode cX0_putBehind 28 = .ok (.iload 4, 2) := by decide +kernel
theorem dX0_putBehind_30 : decode cX0_putBehind 30 = .ok (.iload_n 2, 1) := by decide +kernel
theorem dX0_putBehind_31 : decode cX0_putBehind 31 = .ok (.iastore, 1) := by decide +kernel
theorem dX0_putBehind_32 : decode cX0_putBehind 32 = .ok (.iinc 4 1, 3) := by decide +kernel
theorem dX0_putBehind_35 : decode cX0_putBehind 35 = .ok (.goto (-17), 3) := by decide +kernel
theorem dX0_putBehind_38 : decode cX0_putBehind 38 = .ok (.aload_n 0, 1) := by decide +kernel
theorem dX0_putBehind_39 : decode cX0_putBehind 39 = .ok (.iload_n 3, 1) := by decide +kernel
theorem dX0_putBehind_40 : decode cX0_putBehind 40 = .ok (.putfield 27, 3) := by decide +kernel
theorem dX0_putBehind_43 : decode cX0_putBehind 43 = .ok (.aload_n 0, 1) := by decide +kernel
theorem dX0_putBehind_44 : decode cX0_putBehind 44 = .ok (.invokevirtual 82, 3) := by decide +kernel
theorem dX0_putBehind_47 : decode cX0_putBehind 47 = .ok (.return_, 1) := by decide +kernel
set_option maxRecDepth 20000 in
theorem ggX0_takeOffTheEnd_X0_monthsLeft : GoodIn wsX0_takeOffTheEnd wsX0_monthsLeft := goodIn_r _ [7, 1, 8, 29, 30, 31, 32, 33, 34, 35, 36, 37, 38, 39] (by decide +kernel) (by decide +kernel)
set_option maxRecDepth 20000 in
theorem gX0_takeOffTheEnd_X0_monthsLeft : GoodIn wsX0_takeOffTheEnd (wsV RX0 57 RX0 yX0_monthsLeft wsX0_monthsLeft) := goodIn_app (goodIn_of _ (by decide +kernel)) ggX0_takeOffTheEnd_X0_monthsLeft
set_option maxRecDepth 20000 in
theorem ggX0_takeOffTheEnd_X0_giveUp : GoodIn wsX0_takeOffTheEnd wsX0_giveUp := goodIn_r _ [12, 2, 13, 14, 15, 16, 6, 17, 18, 8, 19, 20, 21, 22, 1, 23, 24, 25, 26, 27, 28, 29, 30, 31, 32, 33, 34, 35, 36, 37, 38, 39] (by decide +kernel) (by decide +kernel)
set_option maxRecDepth 20000 in
theorem gX0_takeOffTheEnd_X0_giveUp : GoodIn wsX0_takeOffTheEnd (wsV RX0 85 RX0 yX0_giveUp wsX0_giveUp) := goodIn_app (goodIn_of _ (by decide +kernel)) ggX0_takeOffTheEnd_X0_giveUp
theorem dX0_takeOffTheEnd_0 : decode cX0_takeOffTheEnd 0 = .ok (.aload_n 0, 1) := by decide +kernel
theorem dX0_takeOffTheEnd_1 : decode cX0_takeOffTheEnd 1 = .ok (.invokevirtual 57, 3) := by decide +kernel
theorem dX0_takeOffTheEnd_4 : decode cX0_takeOffTheEnd 4 = .ok (.istore_n 2, 1) := by decide +kernel
theorem dX0_takeOffTheEnd_5 : decode cX0_takeOffTheEnd 5 = .ok (.aload_n 0, 1) := by decide +kernel
theorem dX0_takeOffTheEnd_6 : decode cX0_takeOffTheEnd 6 = .ok (.dup, 1) := by decide +kernel
theorem dX0_takeOffTheEnd_7 : decode cX0_takeOffTheEnd 7 = .ok (.getfield 27, 3) := by decide +kernel
theorem dX0_takeOffTheEnd_10 : decode cX0_takeOffTheEnd 10 = .ok (.iload_n 1, 1) := by decide +kernel
theorem dX0_takeOffTheEnd_11 : decode cX0_takeOffTheEnd 11 = .ok (.isub, 1) := by decide +kernel
theorem dX0_takeOffTheEnd_12 : decode cX0_takeOffTheEnd 12 = .ok (.putfield 27, 3) := by decide +kernel
theorem dX0_takeOffTheEnd_15 : decode cX0_takeOffTheEnd 15 = .ok (.aload_n 0, 1) := by decide +kernel
theorem dX0_takeOffTheEnd_16 : decode cX0_takeOffTheEnd 16 = .ok (.iload_n 2, 1) := by decide +kernel
theorem dX0_takeOffTheEnd_17 : decode cX0_takeOffTheEnd 17 = .ok (.iconst 1, 1) := by decide +kernel
theorem dX0_takeOffTheEnd_18 : decode cX0_takeOffTheEnd 18 = .ok (.if_icmp .ge 7, 3) := by decide +kernel
theorem dX0_takeOffTheEnd_21 : decode cX0_takeOffTheEnd 21 = .ok (.lconst 0, 1) := by decide +kernel
theorem dX0_takeOffTheEnd_22 : decode cX0_takeOffTheEnd 22 = .ok (.goto 16, 3) := by decide +kernel
theorem dX0_takeOffTheEnd_25 : decode cX0_takeOffTheEnd 25 = .ok (.aload_n 0, 1) := by decide +kernel
theorem dX0_takeOffTheEnd_26 : decode cX0_takeOffTheEnd 26 = .ok (.getfield 44, 3) := by decide +kernel
theorem dX0_takeOffTheEnd_29 : decode cX0_takeOffTheEnd 29 = .ok (.aload_n 0, 1) := by decide +kernel
theorem dX0_takeOffTheEnd_30 : decode cX0_takeOffTheEnd 30 = .ok (.invokevirtual 57, 3) := by decide +kernel
theorem dX0_takeOffTheEnd_33 : decode cX0_takeOffTheEnd 33 = .ok (.i2l, 1) := by decide +kernel
theorem dX0_takeOffTheEnd_34 : decode cX0_takeOffTheEnd 34 = .ok (.lmul, 1) := by decide +kernel
theorem dX0_takeOffTheEnd_35 : decode cX0_takeOffTheEnd 35 = .ok (.iload_n 2, 1) := by decide +kernel
theorem dX0_takeOffTheEnd_36 : decode cX0_takeOffTheEnd 36 = .ok (.i2l, 1) := by decide +kernel
theorem dX0_takeOffTheEnd_37 : decode cX0_takeOffTheEnd 37 = .ok (.ldiv, 1) := by decide +kernel
theorem dX0_takeOffTheEnd_38 : decode cX0_takeOffTheEnd 38 = .ok (.invokevirtual 85, 3) := by decide +kernel
theorem dX0_takeOffTheEnd_41 : decode cX0_takeOffTheEnd 41 = .ok (.ireturn, 1) := by decide +kernel
set_option maxRecDepth 20000 in
theorem ggX0_keepPart_X0_scalePayments : GoodIn wsX0_keepPart wsX0_scalePayments := goodIn_r _ [6, 7, 8, 9, 10, 11, 5, 12, 13, 33, 34, 35, 36, 37, 38, 39, 40, 41, 42, 43] (by decide +kernel) (by decide +kernel)
set_option maxRecDepth 20000 in
theorem gX0_keepPart_X0_scalePayments : GoodIn wsX0_keepPart (wsV RX0 78 RX0 yX0_scalePayments wsX0_scalePayments) := goodIn_app (goodIn_of _ (by decide +kernel)) ggX0_keepPart_X0_scalePayments
set_option maxRecDepth 20000 in
theorem ggX0_keepPart_X0_percentOf : GoodIn wsX0_keepPart wsX0_percentOf := goodIn_r _ [12, 13] (by decide +kernel) (by decide +kernel)
set_option maxRecDepth 20000 in
theorem gX0_keepPart_X0_percentOf : GoodIn wsX0_keepPart (va_wsS RX0 75 yX0_percentOf wsX0_percentOf) := goodIn_app (goodIn_of _ (by decide +kernel)) ggX0_keepPart_X0_percentOf
set_option maxRecDepth 20000 in
theorem ggX0_keepPart_X0_giveUp : GoodIn wsX0_keepPart wsX0_giveUp := goodIn_r _ [17, 1, 18, 19, 20, 21, 5, 22, 23, 7, 24, 25, 26, 27, 8, 9, 28, 29, 30, 31, 32, 33, 34, 35, 36, 37, 38, 39, 40, 41, 42, 43] (by decide +kernel) (by decide +kernel)
set_option maxRecDepth 20000 in
theorem gX0_keepPart_X0_giveUp : GoodIn wsX0_keepPart (wsV RX0 85 RX0 yX0_giveUp wsX0_giveUp) := goodIn_app (goodIn_of _ (by decide +kernel)) ggX0_keepPart_X0_giveUp
theorem dX0_keepPart_0 : decode cX0_keepPart 0 = .ok (.aload_n 0, 1) := by decide +kernel
theorem dX0_keepPart_1 : decode cX0_keepPart 1 = .ok (.iload_n 1, 1) := by decide +kernel
theorem dX0_keepPart_2 : decode cX0_keepPart 2 = .ok (.invokevirtual 78, 3) := by decide +kernel
theorem dX0_keepPart_5 : decode cX0_keepPart 5 = .ok (.aload_n 0, 1) := by decide +kernel
theorem dX0_keepPart_6 : decode cX0_keepPart 6 = .ok (.aload_n 0, 1) := by decide +kernel
theorem dX0_keepPart_7 : decode cX0_keepPart 7 = .ok (.getfield 44, 3) := by decide +kernel
theorem dX0_keepPart_10 : decode cX0_keepPart 10 = .ok (.iload_n 1, 1) := by decide +kernel
theorem dX0_keepPart_11 : decode cX0_keepPart 11 = .ok (.invokestatic 75, 3) := by decide +kernel
theorem dX0_keepPart_14 : decode cX0_keepPart 14 = .ok (.invokevirtual 85, 3) := by decide +kernel
theorem dX0_keepPart_17 : decode cX0_keepPart 17 = .ok (.ireturn, 1) := by decide +kernel
set_option maxRecDepth 20000 in
theorem ggX0_scalePayments_X0_percentOf : GoodIn wsX0_scalePayments wsX0_percentOf := goodIn_r _ [7, 8] (by decide +kernel) (by decide +kernel)
set_option maxRecDepth 20000 in
theorem gX0_scalePayments_X0_percentOf : GoodIn wsX0_scalePayments (va_wsS RX0 75 yX0_percentOf wsX0_percentOf) := goodIn_app (goodIn_of _ (by decide +kernel)) ggX0_scalePayments_X0_percentOf
theorem dX0_scalePayments_0 : decode cX0_scalePayments 0 = .ok (.aload_n 0, 1) := by decide +kernel
theorem dX0_scalePayments_1 : decode cX0_scalePayments 1 = .ok (.getfield 48, 3) := by decide +kernel
theorem dX0_scalePayments_4 : decode cX0_scalePayments 4 = .ok (.istore_n 2, 1) := by decide +kernel
theorem dX0_scalePayments_5 : decode cX0_scalePayments 5 = .ok (.iload_n 2, 1) := by decide +kernel
theorem dX0_scalePayments_6 : decode cX0_scalePayments 6 = .ok (.aload_n 0, 1) := by decide +kernel
theorem dX0_scalePayments_7 : decode cX0_scalePayments 7 = .ok (.getfield 27, 3) := by decide +kernel
theorem dX0_scalePayments_10 : decode cX0_scalePayments 10 = .ok (.if_icmp .ge 27, 3) := by decide +kernel
theorem dX0_scalePayments_13 : decode cX0_scalePayments 13 = .ok (.aload_n 0, 1) := by decide +kernel
theorem dX0_scalePayments_14 : decode cX0_scalePayments 14 = .ok (.getfield 30, 3) := by decide +kernel
theorem dX0_scalePayments_17 : decode cX0_scalePayments 17 = .ok (.iload_n 2, 1) := by decide +kernel
theorem dX0_scalePayments_18 : decode cX0_scalePayments 18 = .ok (.aload_n 0, 1) := by decide +kernel
theorem dX0_scalePayments_19 : decode cX0_scalePayments 19 = .ok (.getfield 30, 3) := by decide +kernel
theorem dX0_scalePayments_22 : decode cX0_scalePayments 22 = .ok (.iload_n 2, 1) := by decide +kernel
theorem dX0_scalePayments_23 : decode cX0_scalePayments 23 = .ok (.iaload, 1) := by decide +kernel
theorem dX0_scalePayments_24 : decode cX0_scalePayments 24 = .ok (.i2l, 1) := by decide +kernel
theorem dX0_scalePayments_25 : decode cX0_scalePayments 25 = .ok (.iload_n 1, 1) := by decide +kernel
theorem dX0_scalePayments_26 : decode cX0_scalePayments 26 = .ok (.invokestatic 75, 3) := by decide +kernel
theorem dX0_scalePayments_29 : decode cX0_scalePayments 29 = .ok (.l2i, 1) := by decide +kernel
theorem dX0_scalePayments_30 : decode cX0_scalePayments 30 = .ok (.iastore, 1) := by decide +kernel
theorem dX0_scalePayments_31 : decode cX0_scalePayments 31 = .ok (.iinc 2 1, 3) := by decide +kernel
theorem dX0_scalePayments_34 : decode cX0_scalePayments 34 = .ok (.goto (-29), 3) := by decide +kernel
theorem dX0_scalePayments_37 : decode cX0_scalePayments 37 = .ok (.return_, 1) := by decide +kernel
theorem dX0_percentOf_0 : decode cX0_percentOf 0 = .ok (.lload_n 0, 1) := by decide +kernel
theorem dX0_percentOf_1 : decode cX0_percentOf 1 = .ok (.iload_n 2, 1) := by decide +kernel
theorem dX0_percentOf_2 : decode cX0_percentOf 2 = .ok (.i2l, 1) := by decide +kernel
theorem dX0_percentOf_3 : decode cX0_percentOf 3 = .ok (.lmul, 1) := by decide +kernel
theorem dX0_percentOf_4 : decode cX0_percentOf 4 = .ok (.ldc2_w 89, 3) := by decide +kernel
theorem dX0_percentOf_7 : decode cX0_percentOf 7 = .ok (.ldiv, 1) := by decide +kernel
theorem dX0_percentOf_8 : decode cX0_percentOf 8 = .ok (.lreturn, 1) := by decide +kernel
set_option maxRecDepth 20000 in
theorem ggX0_followDebt_X0_debtNow : GoodIn wsX0_followDebt wsX0_debtNow := goodIn_r _ [7, 8, 9, 21, 22, 23, 24, 25, 26, 27, 28, 29, 30, 31] (by decide +kernel) (by decide +kernel)
set_option maxRecDepth 20000 in
theorem gX0_followDebt_X0_debtNow : GoodIn wsX0_followDebt (wsV RX0 40 RX0 yX0_debtNow wsX0_debtNow) := goodIn_app (goodIn_of _ (by decide +kernel)) ggX0_followDebt_X0_debtNow
set_option maxRecDepth 20000 in
theorem ggX0_followDebt_X0_layDebts : GoodIn wsX0_followDebt wsX0_layDebts := goodIn_r _ [13, 8, 14, 9, 15, 16, 17, 18, 6, 19, 20, 21, 22, 23, 24, 25, 26, 27, 28, 29, 30, 31] (by decide +kernel) (by decide +kernel)
set_option maxRecDepth 20000 in
theorem gX0_followDebt_X0_layDebts : GoodIn wsX0_followDebt (wsV RX0 37 RX0 yX0_layDebts wsX0_layDebts) := goodIn_app (goodIn_of _ (by decide +kernel)) ggX0_followDebt_X0_layDebts
theorem dX0_followDebt_0 : decode cX0_followDebt 0 = .ok (.aload_n 0, 1) := by decide +kernel
theorem dX0_followDebt_1 : decode cX0_followDebt 1 = .ok (.invokevirtual 40, 3) := by decide +kernel
theorem dX0_followDebt_4 : decode cX0_followDebt 4 = .ok (.i2l, 1) := by decide +kernel
theorem dX0_followDebt_5 : decode cX0_followDebt 5 = .ok (.lstore_n 1, 1) := by decide +kernel
theorem dX0_followDebt_6 : decode cX0_followDebt 6 = .ok (.aload_n 0, 1) := by decide +kernel
theorem dX0_followDebt_7 : decode cX0_followDebt 7 = .ok (.invokevirtual 37, 3) := by decide +kernel
theorem dX0_followDebt_10 : decode cX0_followDebt 10 = .ok (.aload_n 0, 1) := by decide +kernel
theorem dX0_followDebt_11 : decode cX0_followDebt 11 = .ok (.dup, 1) := by decide +kernel
theorem dX0_followDebt_12 : decode cX0_followDebt 12 = .ok (.getfield 44, 3) := by decide +kernel
theorem dX0_followDebt_15 : decode cX0_followDebt 15 = .ok (.aload_n 0, 1) := by decide +kernel
theorem dX0_followDebt_16 : decode cX0_followDebt 16 = .ok (.invokevirtual 40, 3) := by decide +kernel
theorem dX0_followDebt_19 : decode cX0_followDebt 19 = .ok (.i2l, 1) := by decide +kernel
theorem dX0_followDebt_20 : decode cX0_followDebt 20 = .ok (.lload_n 1, 1) := by decide +kernel
theorem dX0_followDebt_21 : decode cX0_followDebt 21 = .ok (.lsub, 1) := by decide +kernel
theorem dX0_followDebt_22 : decode cX0_followDebt 22 = .ok (.ladd, 1) := by decide +kernel
theorem dX0_followDebt_23 : decode cX0_followDebt 23 = .ok (.putfield 44, 3) := by decide +kernel
theorem dX0_followDebt_26 : decode cX0_followDebt 26 = .ok (.aload_n 0, 1) := by decide +kernel
theorem dX0_followDebt_27 : decode cX0_followDebt 27 = .ok (.getfield 44, 3) := by decide +kernel
theorem dX0_followDebt_30 : decode cX0_followDebt 30 = .ok (.lconst 0, 1) := by decide +kernel
theorem dX0_followDebt_31 : decode cX0_followDebt 31 = .ok (.lcmp, 1) := by decide +kernel
theorem dX0_followDebt_32 : decode cX0_followDebt 32 = .ok (.ifCond .ge 21, 3) := by decide +kernel
theorem dX0_followDebt_35 : decode cX0_followDebt 35 = .ok (.aload_n 0, 1) := by decide +kernel
theorem dX0_followDebt_36 : decode cX0_followDebt 36 = .ok (.dup, 1) := by decide +kernel
theorem dX0_followDebt_37 : decode cX0_followDebt 37 = .ok (.getfield 91, 3) := by decide +kernel
theorem dX0_followDebt_40 : decode cX0_followDebt 40 = .ok (.aload_n 0, 1) := by decide +kernel
theorem dX0_followDebt_41 : decode cX0_followDebt 41 = .ok (.getfield 44, 3) := by decide +kernel
theorem dX0_followDebt_44 : decode cX0_followDebt 44 = .ok (.lsub, 1) := by decide +kernel
theorem dX0_followDebt_45 : decode cX0_followDebt 45 = .ok (.putfield 91, 3) := by decide +kernel
theorem dX0_followDebt_48 : decode cX0_followDebt 48 = .ok (.aload_n 0, 1) := by decide +kernel
theorem dX0_followDebt_49 : decode cX0_followDebt 49 = .ok (.lconst 0, 1) := by decide +kernel
theorem dX0_followDebt_50 : decode cX0_followDebt 50 = .ok (.putfield 44, 3) := by decide +kernel
theorem dX0_followDebt_53 : decode cX0_followDebt 53 = .ok (.return_, 1) := by decide +kernel
set_option maxRecDepth 20000 in
theorem ggX0_giveUp_X0_debtNow : GoodIn wsX0_giveUp wsX0_debtNow := goodIn_r _ [7, 8, 9, 21, 22, 23, 24, 25, 26, 27, 28, 29, 30, 31] (by decide +kernel) (by decide +kernel)
set_option maxRecDepth 20000 in
theorem gX0_giveUp_X0_debtNow : GoodIn wsX0_giveUp (wsV RX0 40 RX0 yX0_debtNow wsX0_debtNow) := goodIn_app (goodIn_of _ (by decide +kernel)) ggX0_giveUp_X0_debtNow
set_option maxRecDepth 20000 in
theorem ggX0_giveUp_X0_layDebts : GoodIn wsX0_giveUp wsX0_layDebts := goodIn_r _ [13, 8, 14, 9, 15, 16, 17, 18, 6, 19, 20, 21, 22, 23, 24, 25, 26, 27, 28, 29, 30, 31] (by decide +kernel) (by decide +kernel)
set_option maxRecDepth 20000 in
theorem gX0_giveUp_X0_layDebts : GoodIn wsX0_giveUp (wsV RX0 37 RX0 yX0_layDebts wsX0_layDebts) := goodIn_app (goodIn_of _ (by decide +kernel)) ggX0_giveUp_X0_layDebts
theorem dX0_giveUp_0 : decode cX0_giveUp 0 = .ok (.aload_n 0, 1) := by decide +kernel
theorem dX0_giveUp_1 : decode cX0_giveUp 1 = .ok (.invokevirtual 40, 3) := by decide +kernel
theorem dX0_giveUp_4 : decode cX0_giveUp 4 = .ok (.i2l, 1) := by decide +kernel
theorem dX0_giveUp_5 : decode cX0_giveUp 5 = .ok (.lstore_n 3, 1) := by decide +kernel
theorem dX0_giveUp_6 : decode cX0_giveUp 6 = .ok (.aload_n 0, 1) := by decide +kernel
theorem dX0_giveUp_7 : decode cX0_giveUp 7 = .ok (.invokevirtual 37, 3) := by decide +kernel
theorem dX0_giveUp_10 : decode cX0_giveUp 10 = .ok (.lload_n 3, 1) := by decide +kernel
theorem dX0_giveUp_11 : decode cX0_giveUp 11 = .ok (.aload_n 0, 1) := by decide +kernel
theorem dX0_giveUp_12 : decode cX0_giveUp 12 = .ok (.invokevirtual 40, 3) := by decide +kernel
theorem dX0_giveUp_15 : decode cX0_giveUp 15 = .ok (.i2l, 1) := by decide +kernel
theorem dX0_giveUp_16 : decode cX0_giveUp 16 = .ok (.lsub, 1) := by decide +kernel
theorem dX0_giveUp_17 : decode cX0_giveUp 17 = .ok (.aload_n 0, 1) := by decide +kernel
theorem dX0_giveUp_18 : decode cX0_giveUp 18 = .ok (.getfield 44, 3) := by decide +kernel
theorem dX0_giveUp_21 : decode cX0_giveUp 21 = .ok (.lload_n 1, 1) := by decide +kernel
theorem dX0_giveUp_22 : decode cX0_giveUp 22 = .ok (.lsub, 1) := by decide +kernel
theorem dX0_giveUp_23 : decode cX0_giveUp 23 = .ok (.lsub, 1) := by decide +kernel
theorem dX0_giveUp_24 : decode cX0_giveUp 24 = .ok (.lstore 5, 2) := by decide +kernel
theorem dX0_giveUp_26 : decode cX0_giveUp 26 = .ok (.aload_n 0, 1) := by decide +kernel
theorem dX0_giveUp_27 : decode cX0_giveUp 27 = .ok (.lload_n 1, 1) := by decide +kernel
theorem dX0_giveUp_28 : decode cX0_giveUp 28 = .ok (.putfield 44, 3) := by decide +kernel
theorem dX0_giveUp_31 : decode cX0_giveUp 31 = .ok (.aload_n 0, 1) := by decide +kernel
theorem dX0_giveUp_32 : decode cX0_giveUp 32 = .ok (.dup, 1) := by decide +kernel
theorem dX0_giveUp_33 : decode cX0_giveUp 33 = .ok (.getfield 91, 3) := by decide +kernel
theorem dX0_giveUp_36 : decode cX0_giveUp 36 = .ok (.lload 5, 2) := by decide +kernel
theorem dX0_giveUp_38 : decode cX0_giveUp 38 = .ok (.ladd, 1) := by decide +kernel
theorem dX0_giveUp_39 : decode cX0_giveUp 39 = .ok (.putfield 91, 3) := by decide +kernel
theorem dX0_giveUp_42 : decode cX0_giveUp 42 = .ok (.lload 5, 2) := by decide +kernel
theorem dX0_giveUp_44 : decode cX0_giveUp 44 = .ok (.l2i, 1) := by decide +kernel
theorem dX0_giveUp_45 : decode cX0_giveUp 45 = .ok (.ireturn, 1) := by decide +kernel
end
section
theorem dX1_init_0 : decode cX1_init 0 = .ok (.aload_n 0, 1) := by decide +kernel
theorem dX1_init_1 : decode cX1_init 1 = .ok (.invokespecial 1, 3) := by decide +kernel
theorem dX1_init_4 : decode cX1_init 4 = .ok (.aload_n 0, 1) := by decide +kernel
theorem dX1_init_5 : decode cX1_init 5 = .ok (.bipush 6, 2) := by decide +kernel
theorem dX1_init_7 : decode cX1_init 7 = .ok (.anewarray 9, 3) := by decide +kernel
theorem dX1_init_10 : decode cX1_init 10 = .ok (.putfield 11, 3) := by decide +kernel
theorem dX1_init_13 : decode cX1_init 13 = .ok (.aload_n 0, 1) := by decide +kernel
theorem dX1_init_14 : decode cX1_init 14 = .ok (.iconst 0, 1) := by decide +kernel
theorem dX1_init_15 : decode cX1_init 15 = .ok (.putfield 15, 3) := by decide +kernel
theorem dX1_init_18 : decode cX1_init 18 = .ok (.return_, 1) := by decide +kernel
set_option maxRecDepth 20000 in
theorem ggX1_add_X1_mustBeWithin : GoodIn wsX1_add wsX1_mustBeWithin := goodIn_ca (goodIn_r _ [11, 12, 13] (by decide +kernel) (by decide +kernel)) (goodIn_sub (fun _ h => List.mem_cons_of_mem _ (List.mem_append_right _ h)) (by decide +kernel))
set_option maxRecDepth 20000 in
theorem gX1_add_X1_mustBeWithin : GoodIn wsX1_add (va_wsS RX1 19 yX1_mustBeWithin wsX1_mustBeWithin) := goodIn_app (goodIn_of _ (by decide +kernel)) ggX1_add_X1_mustBeWithin
set_option maxRecDepth 20000 in
theorem ggX1_add_X0_init : GoodIn wsX1_add wsX0_init := goodIn_r _ [16, 17, 18, 19, 20, 21, 22, 23, 24, 25, 26, 27, 28, 29, 30, 31, 32, 33, 34, 35, 36, 7, 37, 38, 39, 40, 41, 42, 43, 44, 45, 46, 49, 50, 51, 52, 53, 54, 55, 56, 57, 58, 59] (by decide +kernel) (by decide +kernel)
set_option maxRecDepth 20000 in
theorem gX1_add_X0_init : GoodIn wsX1_add (wsX0_init) := ggX1_add_X0_init
theorem dX1_add_0 : decode cX1_add 0 = .ok (.iload_n 1, 1) := by decide +kernel
theorem dX1_add_1 : decode cX1_add 1 = .ok (.iconst 1, 1) := by decide +kernel
theorem dX1_add_2 : decode cX1_add 2 = .ok (.bipush 60, 2) := by decide +kernel
theorem dX1_add_4 : decode cX1_add 4 = .ok (.invokestatic 19, 3) := by decide +kernel
theorem dX1_add_7 : decode cX1_add 7 = .ok (.iload_n 2, 1) := by decide +kernel
theorem dX1_add_8 : decode cX1_add 8 = .ok (.iconst 1, 1) := by decide +kernel
theorem dX1_add_9 : decode cX1_add 9 = .ok (.sipush 10000, 3) := by decide +kernel
theorem dX1_add_12 : decode cX1_add 12 = .ok (.invokestatic 19, 3) := by decide +kernel
theorem dX1_add_15 : decode cX1_add 15 = .ok (.iload_n 3, 1) := by decide +kernel
theorem dX1_add_16 : decode cX1_add 16 = .ok (.iconst 0, 1) := by decide +kernel
theorem dX1_add_17 : decode cX1_add 17 = .ok (.bipush 12, 2) := by decide +kernel
theorem dX1_add_19 : decode cX1_add 19 = .ok (.invokestatic 19, 3) := by decide +kernel
theorem dX1_add_22 : decode cX1_add 22 = .ok (.iload 4, 2) := by decide +kernel
theorem dX1_add_24 : decode cX1_add 24 = .ok (.iconst 0, 1) := by decide +kernel
theorem dX1_add_25 : decode cX1_add 25 = .ok (.sipush 1000, 3) := by decide +kernel
theorem dX1_add_28 : decode cX1_add 28 = .ok (.invokestatic 19, 3) := by decide +kernel
theorem dX1_add_31 : decode cX1_add 31 = .ok (.iload 5, 2) := by decide +kernel
theorem dX1_add_33 : decode cX1_add 33 = .ok (.iconst 0, 1) := by decide +kernel
theorem dX1_add_34 : decode cX1_add 34 = .ok (.sipush 20000, 3) := by decide +kernel
theorem dX1_add_37 : decode cX1_add 37 = .ok (.invokestatic 19, 3) := by decide +kernel
theorem dX1_add_40 : decode cX1_add 40 = .ok (.iload 6, 2) := by decide +kernel
theorem dX1_add_42 : decode cX1_add 42 = .ok (.iconst 1, 1) := by decide +kernel
theorem dX1_add_43 : decode cX1_add 43 = .ok (.bipush 120, 2) := by decide +kernel
theorem dX1_add_45 : decode cX1_add 45 = .ok (.invokestatic 19, 3) := by decide +kernel
theorem dX1_add_48 : decode cX1_add 48 = .ok (.iload 7, 2) := by decide +kernel
theorem dX1_add_50 : decode cX1_add 50 = .ok (.iconst 0, 1) := by decide +kernel
theorem dX1_add_51 : decode cX1_add 51 = .ok (.sipush 10000, 3) := by decide +kernel
theorem dX1_add_54 : decode cX1_add 54 = .ok (.invokestatic 19, 3) := by decide +kernel
theorem dX1_add_57 : decode cX1_add 57 = .ok (.aload_n 0, 1) := by decide +kernel
theorem dX1_add_58 : decode cX1_add 58 = .ok (.getfield 15, 3) := by decide +kernel
theorem dX1_add_61 : decode cX1_add 61 = .ok (.istore 8, 2) := by decide +kernel
theorem dX1_add_63 : decode cX1_add 63 = .ok (.iload 8, 2) := by decide +kernel
theorem dX1_add_65 : decode cX1_add 65 = .ok (.ifCond .lt 13, 3) := by decide +kernel
theorem dX1_add_68 : decode cX1_add 68 = .ok (.iload 8, 2) := by decide +kernel
theorem dX1_add_70 : decode cX1_add 70 = .ok (.aload_n 0, 1) := by decide +kernel
theorem dX1_add_71 : decode cX1_add 71 = .ok (.getfield 11, 3) := by decide +kernel
theorem dX1_add_74 : decode cX1_add 74 = .ok (.arraylength, 1) := by decide +kernel
theorem dX1_add_75 : decode cX1_add 75 = .ok (.if_icmp .lt 13, 3) := by decide +kernel
theorem dX1_add_78 : decode cX1_add 78 = .ok (.new 23, 3) := by decide +kernel
theorem dX1_add_81 : decode cX1_add 81 = .ok (.dup, 1) := by decide +kernel
theorem dX1_add_82 : decode cX1_add 82 = .ok (.ldc 25, 2) := by decide +kernel
theorem dX1_add_84 : decode cX1_add 84 = .ok (.invokespecial 27, 3) := by decide +kernel
theorem dX1_add_87 : decode cX1_add 87 = .ok (.athrow, 1) := by decide +kernel
theorem dX1_add_88 : decode cX1_add 88 = .ok (.aload_n 0, 1) := by decide +kernel
theorem dX1_add_89 : decode cX1_add 89 = .ok (.getfield 11, 3) := by decide +kernel
theorem dX1_add_92 : decode cX1_add 92 = .ok (.iload 8, 2) := by decide +kernel
theorem dX1_add_94 : decode cX1_add 94 = .ok (.new 9, 3) := by decide +kernel
theorem dX1_add_97 : decode cX1_add 97 = .ok (.dup, 1) := by decide +kernel
theorem dX1_add_98 : decode cX1_add 98 = .ok (.iload_n 1, 1) := by decide +kernel
theorem dX1_add_99 : decode cX1_add 99 = .ok (.iload_n 2, 1) := by decide +kernel
theorem dX1_add_100 : decode cX1_add 100 = .ok (.iload_n 3, 1) := by decide +kernel
theorem dX1_add_101 : decode cX1_add 101 = .ok (.iload 4, 2) := by decide +kernel
theorem dX1_add_103 : decode cX1_add 103 = .ok (.iload 5, 2) := by decide +kernel
theorem dX1_add_105 : decode cX1_add 105 = .ok (.iload 6, 2) := by decide +kernel
theorem dX1_add_107 : decode cX1_add 107 = .ok (.iload 7, 2) := by decide +kernel
theorem dX1_add_109 : decode cX1_add 109 = .ok (.invokespecial 30, 3) := by decide +kernel
theorem dX1_add_112 : decode cX1_add 112 = .ok (.aastore, 1) := by decide +kernel
theorem dX1_add_113 : decode cX1_add 113 = .ok (.aload_n 0, 1) := by decide +kernel
theorem dX1_add_114 : decode cX1_add 114 = .ok (.iload 8, 2) := by decide +kernel
theorem dX1_add_116 : decode cX1_add 116 = .ok (.iconst 1, 1) := by decide +kernel
theorem dX1_add_117 : decode cX1_add 117 = .ok (.iadd, 1) := by decide +kernel
theorem dX1_add_118 : decode cX1_add 118 = .ok (.putfield 15, 3) := by decide +kernel
theorem dX1_add_121 : decode cX1_add 121 = .ok (.iload 8, 2) := by decide +kernel
theorem dX1_add_123 : decode cX1_add 123 = .ok (.ireturn, 1) := by decide +kernel
set_option maxRecDepth 20000 in
theorem ggX1_pass_X1_mustBeWithin : GoodIn wsX1_pass wsX1_mustBeWithin := goodIn_ca (goodIn_r _ [5, 6, 7] (by decide +kernel) (by decide +kernel)) (goodIn_sub (fun _ h => List.mem_cons_of_mem _ (List.mem_append_right _ h)) (by decide +kernel))
set_option maxRecDepth 20000 in
theorem gX1_pass_X1_mustBeWithin : GoodIn wsX1_pass (va_wsS RX1 19 yX1_mustBeWithin wsX1_mustBeWithin) := goodIn_app (goodIn_of _ (by decide +kernel)) ggX1_pass_X1_mustBeWithin
set_option maxRecDepth 20000 in
theorem ggX1_pass_X0_endsWithin : GoodIn wsX1_pass wsX0_endsWithin := goodIn_r _ [12, 13, 14, 15, 16, 17, 18, 19, 11, 20, 21, 22, 23, 24, 25, 26, 27, 28, 29, 30, 31, 32, 33, 34, 35, 36, 37, 38, 39, 40, 43, 44, 45, 46, 47, 48, 49, 50, 51, 52, 53] (by decide +kernel) (by decide +kernel)
set_option maxRecDepth 20000 in
theorem gX1_pass_X0_endsWithin : GoodIn wsX1_pass (wsV RX1 33 RX0 yX0_endsWithin wsX0_endsWithin) := goodIn_app (goodIn_of _ (by decide +kernel)) ggX1_pass_X0_endsWithin
theorem dX1_pass_0 : decode cX1_pass 0 = .ok (.iload_n 1, 1) := by decide +kernel
theorem dX1_pass_1 : decode cX1_pass 1 = .ok (.iconst 1, 1) := by decide +kernel
theorem dX1_pass_2 : decode cX1_pass 2 = .ok (.bipush 24, 2) := by decide +kernel
theorem dX1_pass_4 : decode cX1_pass 4 = .ok (.invokestatic 19, 3) := by decide +kernel
theorem dX1_pass_7 : decode cX1_pass 7 = .ok (.iconst 0, 1) := by decide +kernel
theorem dX1_pass_8 : decode cX1_pass 8 = .ok (.istore_n 2, 1) := by decide +kernel
theorem dX1_pass_9 : decode cX1_pass 9 = .ok (.aload_n 0, 1) := by decide +kernel
theorem dX1_pass_10 : decode cX1_pass 10 = .ok (.getfield 11, 3) := by decide +kernel
theorem dX1_pass_13 : decode cX1_pass 13 = .ok (.astore_n 3, 1) := by decide +kernel
theorem dX1_pass_14 : decode cX1_pass 14 = .ok (.aload_n 3, 1) := by decide +kernel
theorem dX1_pass_15 : decode cX1_pass 15 = .ok (.arraylength, 1) := by decide +kernel
theorem dX1_pass_16 : decode cX1_pass 16 = .ok (.istore 4, 2) := by decide +kernel
theorem dX1_pass_18 : decode cX1_pass 18 = .ok (.iconst 0, 1) := by decide +kernel
theorem dX1_pass_19 : decode cX1_pass 19 = .ok (.istore 5, 2) := by decide +kernel
theorem dX1_pass_21 : decode cX1_pass 21 = .ok (.iload 5, 2) := by decide +kernel
theorem dX1_pass_23 : decode cX1_pass 23 = .ok (.iload 4, 2) := by decide +kernel
theorem dX1_pass_25 : decode cX1_pass 25 = .ok (.if_icmp .ge 32, 3) := by decide +kernel
theorem dX1_pass_28 : decode cX1_pass 28 = .ok (.aload_n 3, 1) := by decide +kernel
theorem dX1_pass_29 : decode cX1_pass 29 = .ok (.iload 5, 2) := by decide +kernel
theorem dX1_pass_31 : decode cX1_pass 31 = .ok (.aaload, 1) := by decide +kernel
theorem dX1_pass_32 : decode cX1_pass 32 = .ok (.astore 6, 2) := by decide +kernel
theorem dX1_pass_34 : decode cX1_pass 34 = .ok (.aload 6, 2) := by decide +kernel
theorem dX1_pass_36 : decode cX1_pass 36 = .ok (.ifnull 15, 3) := by decide +kernel
theorem dX1_pass_39 : decode cX1_pass 39 = .ok (.aload 6, 2) := by decide +kernel
theorem dX1_pass_41 : decode cX1_pass 41 = .ok (.iload_n 1, 1) := by decide +kernel
theorem dX1_pass_42 : decode cX1_pass 42 = .ok (.invokevirtual 33, 3) := by decide +kernel
theorem dX1_pass_45 : decode cX1_pass 45 = .ok (.ifCond .eq 6, 3) := by decide +kernel
theorem dX1_pass_48 : decode cX1_pass 48 = .ok (.iinc 2 1, 3) := by decide +kernel
theorem dX1_pass_51 : decode cX1_pass 51 = .ok (.iinc 5 1, 3) := by decide +kernel
theorem dX1_pass_54 : decode cX1_pass 54 = .ok (.goto (-33), 3) := by decide +kernel
theorem dX1_pass_57 : decode cX1_pass 57 = .ok (.iload_n 2, 1) := by decide +kernel
theorem dX1_pass_58 : decode cX1_pass 58 = .ok (.ireturn, 1) := by decide +kernel
set_option maxRecDepth 20000 in
theorem ggX1_review_X1_leaseOf : GoodIn wsX1_review wsX1_leaseOf := goodIn_ca (goodIn_r _ [7, 8, 9, 10, 64, 65] (by decide +kernel) (by decide +kernel)) (goodIn_sub (fun _ h => List.mem_cons_of_mem _ (List.mem_append_left _ (List.mem_append_right _ h))) (by decide +kernel))
set_option maxRecDepth 20000 in
theorem gX1_review_X1_leaseOf : GoodIn wsX1_review (wsV RX1 37 RX1 yX1_leaseOf wsX1_leaseOf) := goodIn_app (goodIn_of _ (by decide +kernel)) ggX1_review_X1_leaseOf
set_option maxRecDepth 20000 in
theorem ggX1_review_X1_mustBeWithin : GoodIn wsX1_review wsX1_mustBeWithin := goodIn_ca (goodIn_r _ [13, 14, 15] (by decide +kernel) (by decide +kernel)) (goodIn_sub (fun _ h => List.mem_cons_of_mem _ (List.mem_append_right _ h)) (by decide +kernel))
set_option maxRecDepth 20000 in
theorem gX1_review_X1_mustBeWithin : GoodIn wsX1_review (va_wsS RX1 19 yX1_mustBeWithin wsX1_mustBeWithin) := goodIn_app (goodIn_of _ (by decide +kernel)) ggX1_review_X1_mustBeWithin
set_option maxRecDepth 20000 in
theorem ggX1_review_X1_mustGoOn : GoodIn wsX1_review wsX1_mustGoOn := goodIn_ca (goodIn_r _ [18, 1, 2, 19, 20, 21, 22, 23, 24, 25, 66, 67, 68, 69, 70, 71, 72, 73, 74, 75, 76] (by decide +kernel) (by decide +kernel)) (goodIn_sub (fun _ h => List.mem_cons_of_mem _ (List.mem_append_left _ (List.mem_append_left _ (List.mem_append_right _ h)))) (by decide +kernel))
set_option maxRecDepth 20000 in
theorem gX1_review_X1_mustGoOn : GoodIn wsX1_review (va_wsS RX1 41 yX1_mustGoOn wsX1_mustGoOn) := goodIn_app (goodIn_of _ (by decide +kernel)) ggX1_review_X1_mustGoOn
set_option maxRecDepth 20000 in
theorem ggX1_review_X0_wouldPassTheMost : GoodIn wsX1_review wsX0_wouldPassTheMost := goodIn_r _ [29, 25, 24, 30, 31, 32, 33, 22, 34, 35, 66, 67, 68, 69, 70, 71, 72, 73, 74, 75, 76] (by decide +kernel) (by decide +kernel)
set_option maxRecDepth 20000 in
theorem gX1_review_X0_wouldPassTheMost : GoodIn wsX1_review (wsV RX1 45 RX0 yX0_wouldPassTheMost wsX0_wouldPassTheMost) := goodIn_app (goodIn_of _ (by decide +kernel)) ggX1_review_X0_wouldPassTheMost
set_option maxRecDepth 20000 in
theorem ggX1_review_X0_reviewPayments : GoodIn wsX1_review wsX0_reviewPayments := goodIn_r _ [39, 40, 41, 42, 22, 43, 25, 24, 30, 32, 33, 34, 35, 44, 45, 46, 47, 48, 49, 50, 51, 52, 53, 54, 55, 56, 57, 58, 59, 60, 61, 62, 31, 66, 67, 68, 69, 70, 71, 72, 73, 74, 75, 76] (by decide +kernel) (by decide +kernel)
set_option maxRecDepth 20000 in
theorem gX1_review_X0_reviewPayments : GoodIn wsX1_review (wsV RX1 50 RX0 yX0_reviewPayments wsX0_reviewPayments) := goodIn_app (goodIn_of _ (by decide +kernel)) ggX1_review_X0_reviewPayments
set_option maxRecDepth 20000 in
theorem ggX1_review_X0_debtNow : GoodIn wsX1_review wsX0_debtNow := goodIn_r _ [53, 54, 25, 66, 67, 68, 69, 70, 71, 72, 73, 74, 75, 76] (by decide +kernel) (by decide +kernel)
set_option maxRecDepth 20000 in
theorem gX1_review_X0_debtNow : GoodIn wsX1_review (wsV RX1 54 RX0 yX0_debtNow wsX0_debtNow) := goodIn_app (goodIn_of _ (by decide +kernel)) ggX1_review_X0_debtNow
theorem dX1_review_0 : decode cX1_review 0 = .ok (.aload_n 0, 1) := by decide +kernel
theorem dX1_review_1 : decode cX1_review 1 = .ok (.iload_n 1, 1) := by decide +kernel
theorem dX1_review_2 : decode cX1_review 2 = .ok (.invokevirtual 37, 3) := by decide +kernel
theorem dX1_review_5 : decode cX1_review 5 = .ok (.astore_n 3, 1) := by decide +kernel
theorem dX1_review_6 : decode cX1_review 6 = .ok (.iload_n 2, 1) := by decide +kernel
theorem dX1_review_7 : decode cX1_review 7 = .ok (.bipush (-50), 2) := by decide +kernel
theorem dX1_review_9 : decode cX1_review 9 = .ok (.bipush 100, 2) := by decide +kernel
theorem dX1_review_11 : decode cX1_review 11 = .ok (.invokestatic 19, 3) := by decide +kernel
theorem dX1_review_14 : decode cX1_review 14 = .ok (.aload_n 3, 1) := by decide +kernel
theorem dX1_review_15 : decode cX1_review 15 = .ok (.invokestatic 41, 3) := by decide +kernel
theorem dX1_review_18 : decode cX1_review 18 = .ok (.aload_n 3, 1) := by decide +kernel
theorem dX1_review_19 : decode cX1_review 19 = .ok (.bipush 100, 2) := by decide +kernel
theorem dX1_review_21 : decode cX1_review 21 = .ok (.iload_n 2, 1) := by decide +kernel
theorem dX1_review_22 : decode cX1_review 22 = .ok (.iadd, 1) := by decide +kernel
theorem dX1_review_23 : decode cX1_review 23 = .ok (.invokevirtual 45, 3) := by decide +kernel
theorem dX1_review_26 : decode cX1_review 26 = .ok (.ifCond .eq 13, 3) := by decide +kernel
theorem dX1_review_29 : decode cX1_review 29 = .ok (.new 23, 3) := by decide +kernel
theorem dX1_review_32 : decode cX1_review 32 = .ok (.dup, 1) := by decide +kernel
theorem dX1_review_33 : decode cX1_review 33 = .ok (.ldc 48, 2) := by decide +kernel
theorem dX1_review_35 : decode cX1_review 35 = .ok (.invokespecial 27, 3) := by decide +kernel
theorem dX1_review_38 : decode cX1_review 38 = .ok (.athrow, 1) := by decide +kernel
theorem dX1_review_39 : decode cX1_review 39 = .ok (.aload_n 3, 1) := by decide +kernel
theorem dX1_review_40 : decode cX1_review 40 = .ok (.bipush 100, 2) := by decide +kernel
theorem dX1_review_42 : decode cX1_review 42 = .ok (.iload_n 2, 1) := by decide +kernel
theorem dX1_review_43 : decode cX1_review 43 = .ok (.iadd, 1) := by decide +kernel
theorem dX1_review_44 : decode cX1_review 44 = .ok (.invokevirtual 50, 3) := by decide +kernel
theorem dX1_review_47 : decode cX1_review 47 = .ok (.aload_n 3, 1) := by decide +kernel
theorem dX1_review_48 : decode cX1_review 48 = .ok (.invokevirtual 54, 3) := by decide +kernel
theorem dX1_review_51 : decode cX1_review 51 = .ok (.ireturn, 1) := by decide +kernel
set_option maxRecDepth 20000 in
theorem ggX1_lengthen_X1_leaseOf : GoodIn wsX1_lengthen wsX1_leaseOf := goodIn_ca (goodIn_r _ [7, 8, 9, 10, 60, 61] (by decide +kernel) (by decide +kernel)) (goodIn_sub (fun _ h => List.mem_cons_of_mem _ (List.mem_append_left _ (List.mem_append_right _ h))) (by decide +kernel))
set_option maxRecDepth 20000 in
theorem gX1_lengthen_X1_leaseOf : GoodIn wsX1_lengthen (wsV RX1 37 RX1 yX1_leaseOf wsX1_leaseOf) := goodIn_app (goodIn_of _ (by decide +kernel)) ggX1_lengthen_X1_leaseOf
set_option maxRecDepth 20000 in
theorem ggX1_lengthen_X1_mustBeWithin : GoodIn wsX1_lengthen wsX1_mustBeWithin := goodIn_ca (goodIn_r _ [13, 14, 15] (by decide +kernel) (by decide +kernel)) (goodIn_sub (fun _ h => List.mem_cons_of_mem _ (List.mem_append_right _ h)) (by decide +kernel))
set_option maxRecDepth 20000 in
theorem gX1_lengthen_X1_mustBeWithin : GoodIn wsX1_lengthen (va_wsS RX1 19 yX1_mustBeWithin wsX1_mustBeWithin) := goodIn_app (goodIn_of _ (by decide +kernel)) ggX1_lengthen_X1_mustBeWithin
set_option maxRecDepth 20000 in
theorem ggX1_lengthen_X1_mustGoOn : GoodIn wsX1_lengthen wsX1_mustGoOn := goodIn_ca (goodIn_r _ [18, 1, 2, 19, 20, 21, 22, 23, 24, 25, 62, 63, 64, 65, 66, 67, 68, 69, 70, 71, 72] (by decide +kernel) (by decide +kernel)) (goodIn_sub (fun _ h => List.mem_cons_of_mem _ (List.mem_append_left _ (List.mem_append_left _ (List.mem_append_right _ h)))) (by decide +kernel))
set_option maxRecDepth 20000 in
theorem gX1_lengthen_X1_mustGoOn : GoodIn wsX1_lengthen (va_wsS RX1 41 yX1_mustGoOn wsX1_mustGoOn) := goodIn_app (goodIn_of _ (by decide +kernel)) ggX1_lengthen_X1_mustGoOn
set_option maxRecDepth 20000 in
theorem ggX1_lengthen_X0_hasRoomFor : GoodIn wsX1_lengthen wsX0_hasRoomFor := goodIn_r _ [29, 24, 62, 63, 64, 65, 66, 67, 68, 69, 70, 71, 72] (by decide +kernel) (by decide +kernel)
set_option maxRecDepth 20000 in
theorem gX1_lengthen_X0_hasRoomFor : GoodIn wsX1_lengthen (wsV RX1 58 RX0 yX0_hasRoomFor wsX0_hasRoomFor) := goodIn_app (goodIn_of _ (by decide +kernel)) ggX1_lengthen_X0_hasRoomFor
set_option maxRecDepth 20000 in
theorem ggX1_lengthen_X0_putBehind : GoodIn wsX1_lengthen wsX0_putBehind := goodIn_r _ [33, 24, 34, 35, 36, 37, 38, 39, 40, 41, 22, 42, 43, 44, 45, 46, 47, 48, 49, 25, 50, 51, 52, 53, 54, 55, 56, 57, 58, 62, 63, 64, 65, 66, 67, 68, 69, 70, 71, 72] (by decide +kernel) (by decide +kernel)
set_option maxRecDepth 20000 in
theorem gX1_lengthen_X0_putBehind : GoodIn wsX1_lengthen (wsV RX1 63 RX0 yX0_putBehind wsX0_putBehind) := goodIn_app (goodIn_of _ (by decide +kernel)) ggX1_lengthen_X0_putBehind
set_option maxRecDepth 20000 in
theorem ggX1_lengthen_X0_debtNow : GoodIn wsX1_lengthen wsX0_debtNow := goodIn_r _ [48, 49, 25, 62, 63, 64, 65, 66, 67, 68, 69, 70, 71, 72] (by decide +kernel) (by decide +kernel)
set_option maxRecDepth 20000 in
theorem gX1_lengthen_X0_debtNow : GoodIn wsX1_lengthen (wsV RX1 54 RX0 yX0_debtNow wsX0_debtNow) := goodIn_app (goodIn_of _ (by decide +kernel)) ggX1_lengthen_X0_debtNow
theorem dX1_lengthen_0 : decode cX1_lengthen 0 = .ok (.aload_n 0, 1) := by decide +kernel
theorem dX1_lengthen_1 : decode cX1_lengthen 1 = .ok (.iload_n 1, 1) := by decide +kernel
theorem dX1_lengthen_2 : decode cX1_lengthen 2 = .ok (.invokevirtual 37, 3) := by decide +kernel
theorem dX1_lengthen_5 : decode cX1_lengthen 5 = .ok (.astore 4, 2) := by decide +kernel
theorem dX1_lengthen_7 : decode cX1_lengthen 7 = .ok (.iload_n 2, 1) := by decide +kernel
theorem dX1_lengthen_8 : decode cX1_lengthen 8 = .ok (.iconst 1, 1) := by decide +kernel
theorem dX1_lengthen_9 : decode cX1_lengthen 9 = .ok (.bipush 36, 2) := by decide +kernel
theorem dX1_lengthen_11 : decode cX1_lengthen 11 = .ok (.invokestatic 19, 3) := by decide +kernel
theorem dX1_lengthen_14 : decode cX1_lengthen 14 = .ok (.iload_n 3, 1) := by decide +kernel
theorem dX1_lengthen_15 : decode cX1_lengthen 15 = .ok (.iconst 0, 1) := by decide +kernel
theorem dX1_lengthen_16 : decode cX1_lengthen 16 = .ok (.sipush 10000, 3) := by decide +kernel
theorem dX1_lengthen_19 : decode cX1_lengthen 19 = .ok (.invokestatic 19, 3) := by decide +kernel
theorem dX1_lengthen_22 : decode cX1_lengthen 22 = .ok (.aload 4, 2) := by decide +kernel
theorem dX1_lengthen_24 : decode cX1_lengthen 24 = .ok (.invokestatic 41, 3) := by decide +kernel
theorem dX1_lengthen_27 : decode cX1_lengthen 27 = .ok (.aload 4, 2) := by decide +kernel
theorem dX1_lengthen_29 : decode cX1_lengthen 29 = .ok (.iload_n 2, 1) := by decide +kernel
theorem dX1_lengthen_30 : decode cX1_lengthen 30 = .ok (.invokevirtual 58, 3) := by decide +kernel
theorem dX1_lengthen_33 : decode cX1_lengthen 33 = .ok (.ifCond .ne 13, 3) := by decide +kernel
theorem dX1_lengthen_36 : decode cX1_lengthen 36 = .ok (.new 23, 3) := by decide +kernel
theorem dX1_lengthen_39 : decode cX1_lengthen 39 = .ok (.dup, 1) := by decide +kernel
theorem dX1_lengthen_40 : decode cX1_lengthen 40 = .ok (.ldc 61, 2) := by decide +kernel
theorem dX1_lengthen_42 : decode cX1_lengthen 42 = .ok (.invokespecial 27, 3) := by decide +kernel
theorem dX1_lengthen_45 : decode cX1_lengthen 45 = .ok (.athrow, 1) := by decide +kernel
theorem dX1_lengthen_46 : decode cX1_lengthen 46 = .ok (.aload 4, 2) := by decide +kernel
theorem dX1_lengthen_48 : decode cX1_lengthen 48 = .ok (.iload_n 2, 1) := by decide +kernel
theorem dX1_lengthen_49 : decode cX1_lengthen 49 = .ok (.iload_n 3, 1) := by decide +kernel
theorem dX1_lengthen_50 : decode cX1_lengthen 50 = .ok (.invokevirtual 63, 3) := by decide +kernel
theorem dX1_lengthen_53 : decode cX1_lengthen 53 = .ok (.aload 4, 2) := by decide +kernel
theorem dX1_lengthen_55 : decode cX1_lengthen 55 = .ok (.invokevirtual 54, 3) := by decide +kernel
theorem dX1_lengthen_58 : decode cX1_lengthen 58 = .ok (.ireturn, 1) := by decide +kernel
set_option maxRecDepth 20000 in
theorem ggX1_shorten_X1_leaseOf : GoodIn wsX1_shorten wsX1_leaseOf := goodIn_ca (goodIn_r _ [7, 8, 9, 10, 49, 50] (by decide +kernel) (by decide +kernel)) (goodIn_sub (fun _ h => List.mem_cons_of_mem _ (List.mem_append_left _ (List.mem_append_right _ h))) (by decide +kernel))
set_option maxRecDepth 20000 in
theorem gX1_shorten_X1_leaseOf : GoodIn wsX1_shorten (wsV RX1 37 RX1 yX1_leaseOf wsX1_leaseOf) := goodIn_app (goodIn_of _ (by decide +kernel)) ggX1_shorten_X1_leaseOf
set_option maxRecDepth 20000 in
theorem ggX1_shorten_X1_mustBeWithin : GoodIn wsX1_shorten wsX1_mustBeWithin := goodIn_ca (goodIn_r _ [13, 14, 15] (by decide +kernel) (by decide +kernel)) (goodIn_sub (fun _ h => List.mem_cons_of_mem _ (List.mem_append_right _ h)) (by decide +kernel))
set_option maxRecDepth 20000 in
theorem gX1_shorten_X1_mustBeWithin : GoodIn wsX1_shorten (va_wsS RX1 19 yX1_mustBeWithin wsX1_mustBeWithin) := goodIn_app (goodIn_of _ (by decide +kernel)) ggX1_shorten_X1_mustBeWithin
set_option maxRecDepth 20000 in
theorem ggX1_shorten_X0_monthsLeft : GoodIn wsX1_shorten wsX0_monthsLeft := goodIn_r _ [20, 21, 22, 51, 52, 53, 54, 55, 56, 57, 58, 59, 60, 61] (by decide +kernel) (by decide +kernel)
set_option maxRecDepth 20000 in
theorem gX1_shorten_X0_monthsLeft : GoodIn wsX1_shorten (wsV RX1 67 RX0 yX0_monthsLeft wsX0_monthsLeft) := goodIn_app (goodIn_of _ (by decide +kernel)) ggX1_shorten_X0_monthsLeft
set_option maxRecDepth 20000 in
theorem ggX1_shorten_X0_takeOffTheEnd : GoodIn wsX1_shorten wsX0_takeOffTheEnd := goodIn_r _ [26, 21, 27, 28, 17, 18, 19, 20, 22, 29, 30, 31, 32, 33, 34, 35, 36, 37, 38, 39, 40, 41, 42, 43, 44, 45, 46, 47, 48, 51, 52, 53, 54, 55, 56, 57, 58, 59, 60, 61] (by decide +kernel) (by decide +kernel)
set_option maxRecDepth 20000 in
theorem gX1_shorten_X0_takeOffTheEnd : GoodIn wsX1_shorten (wsV RX1 72 RX0 yX0_takeOffTheEnd wsX0_takeOffTheEnd) := goodIn_app (goodIn_of _ (by decide +kernel)) ggX1_shorten_X0_takeOffTheEnd
theorem dX1_shorten_0 : decode cX1_shorten 0 = .ok (.aload_n 0, 1) := by decide +kernel
theorem dX1_shorten_1 : decode cX1_shorten 1 = .ok (.iload_n 1, 1) := by decide +kernel
theorem dX1_shorten_2 : decode cX1_shorten 2 = .ok (.invokevirtual 37, 3) := by decide +kernel
theorem dX1_shorten_5 : decode cX1_shorten 5 = .ok (.astore_n 3, 1) := by decide +kernel
theorem dX1_shorten_6 : decode cX1_shorten 6 = .ok (.iload_n 2, 1) := by decide +kernel
theorem dX1_shorten_7 : decode cX1_shorten 7 = .ok (.iconst 1, 1) := by decide +kernel
theorem dX1_shorten_8 : decode cX1_shorten 8 = .ok (.bipush 60, 2) := by decide +kernel
theorem dX1_shorten_10 : decode cX1_shorten 10 = .ok (.invokestatic 19, 3) := by decide +kernel
theorem dX1_shorten_13 : decode cX1_shorten 13 = .ok (.aload_n 3, 1) := by decide +kernel
theorem dX1_shorten_14 : decode cX1_shorten 14 = .ok (.invokevirtual 67, 3) := by decide +kernel
theorem dX1_shorten_17 : decode cX1_shorten 17 = .ok (.iload_n 2, 1) := by decide +kernel
theorem dX1_shorten_18 : decode cX1_shorten 18 = .ok (.if_icmp .gt 13, 3) := by decide +kernel
theorem dX1_shorten_21 : decode cX1_shorten 21 = .ok (.new 23, 3) := by decide +kernel
theorem dX1_shorten_24 : decode cX1_shorten 24 = .ok (.dup, 1) := by decide +kernel
theorem dX1_shorten_25 : decode cX1_shorten 25 = .ok (.ldc 70, 2) := by decide +kernel
theorem dX1_shorten_27 : decode cX1_shorten 27 = .ok (.invokespecial 27, 3) := by decide +kernel
theorem dX1_shorten_30 : decode cX1_shorten 30 = .ok (.athrow, 1) := by decide +kernel
theorem dX1_shorten_31 : decode cX1_shorten 31 = .ok (.aload_n 3, 1) := by decide +kernel
theorem dX1_shorten_32 : decode cX1_shorten 32 = .ok (.iload_n 2, 1) := by decide +kernel
theorem dX1_shorten_33 : decode cX1_shorten 33 = .ok (.invokevirtual 72, 3) := by decide +kernel
theorem dX1_shorten_36 : decode cX1_shorten 36 = .ok (.ireturn, 1) := by decide +kernel
set_option maxRecDepth 20000 in
theorem ggX1_cut_X1_leaseOf : GoodIn wsX1_cut wsX1_leaseOf := goodIn_ca (goodIn_r _ [5, 6, 7, 8, 59, 60] (by decide +kernel) (by decide +kernel)) (goodIn_sub (fun _ h => List.mem_cons_of_mem _ (List.mem_append_left _ (List.mem_append_left _ (List.mem_append_right _ h)))) (by decide +kernel))
set_option maxRecDepth 20000 in
theorem gX1_cut_X1_leaseOf : GoodIn wsX1_cut (wsV RX1 37 RX1 yX1_leaseOf wsX1_leaseOf) := goodIn_app (goodIn_of _ (by decide +kernel)) ggX1_cut_X1_leaseOf
set_option maxRecDepth 20000 in
theorem ggX1_cut_X1_mustBeWithin : GoodIn wsX1_cut wsX1_mustBeWithin := goodIn_ca (goodIn_r _ [11, 12, 13] (by decide +kernel) (by decide +kernel)) (goodIn_sub (fun _ h => List.mem_cons_of_mem _ (List.mem_append_left _ (List.mem_append_right _ h))) (by decide +kernel))
set_option maxRecDepth 20000 in
theorem gX1_cut_X1_mustBeWithin : GoodIn wsX1_cut (va_wsS RX1 19 yX1_mustBeWithin wsX1_mustBeWithin) := goodIn_app (goodIn_of _ (by decide +kernel)) ggX1_cut_X1_mustBeWithin
set_option maxRecDepth 20000 in
theorem ggX1_cut_X1_mustGoOn : GoodIn wsX1_cut wsX1_mustGoOn := goodIn_ca (goodIn_r _ [16, 17, 18, 19, 20, 21, 22, 23, 24, 25, 61, 62, 63, 64, 65, 66, 67, 68, 69, 70, 71] (by decide +kernel) (by decide +kernel)) (goodIn_sub (fun _ h => List.mem_cons_of_mem _ (List.mem_append_right _ h)) (by decide +kernel))
set_option maxRecDepth 20000 in
theorem gX1_cut_X1_mustGoOn : GoodIn wsX1_cut (va_wsS RX1 41 yX1_mustGoOn wsX1_mustGoOn) := goodIn_app (goodIn_of _ (by decide +kernel)) ggX1_cut_X1_mustGoOn
set_option maxRecDepth 20000 in
theorem ggX1_cut_X0_keepPart : GoodIn wsX1_cut wsX0_keepPart := goodIn_r _ [29, 30, 31, 32, 33, 22, 34, 25, 24, 35, 36, 37, 38, 39, 40, 41, 42, 43, 44, 45, 46, 47, 48, 49, 50, 51, 52, 53, 54, 55, 56, 57, 58, 61, 62, 63, 64, 65, 66, 67, 68, 69, 70, 71] (by decide +kernel) (by decide +kernel)
set_option maxRecDepth 20000 in
theorem gX1_cut_X0_keepPart : GoodIn wsX1_cut (wsV RX1 76 RX0 yX0_keepPart wsX0_keepPart) := goodIn_app (goodIn_of _ (by decide +kernel)) ggX1_cut_X0_keepPart
theorem dX1_cut_0 : decode cX1_cut 0 = .ok (.aload_n 0, 1) := by decide +kernel
theorem dX1_cut_1 : decode cX1_cut 1 = .ok (.iload_n 1, 1) := by decide +kernel
theorem dX1_cut_2 : decode cX1_cut 2 = .ok (.invokevirtual 37, 3) := by decide +kernel
theorem dX1_cut_5 : decode cX1_cut 5 = .ok (.astore_n 3, 1) := by decide +kernel
theorem dX1_cut_6 : decode cX1_cut 6 = .ok (.iload_n 2, 1) := by decide +kernel
theorem dX1_cut_7 : decode cX1_cut 7 = .ok (.iconst 1, 1) := by decide +kernel
theorem dX1_cut_8 : decode cX1_cut 8 = .ok (.bipush 99, 2) := by decide +kernel
theorem dX1_cut_10 : decode cX1_cut 10 = .ok (.invokestatic 19, 3) := by decide +kernel
theorem dX1_cut_13 : decode cX1_cut 13 = .ok (.aload_n 3, 1) := by decide +kernel
theorem dX1_cut_14 : decode cX1_cut 14 = .ok (.invokestatic 41, 3) := by decide +kernel
theorem dX1_cut_17 : decode cX1_cut 17 = .ok (.aload_n 3, 1) := by decide +kernel
theorem dX1_cut_18 : decode cX1_cut 18 = .ok (.bipush 100, 2) := by decide +kernel
theorem dX1_cut_20 : decode cX1_cut 20 = .ok (.iload_n 2, 1) := by decide +kernel
theorem dX1_cut_21 : decode cX1_cut 21 = .ok (.isub, 1) := by decide +kernel
theorem dX1_cut_22 : decode cX1_cut 22 = .ok (.invokevirtual 76, 3) := by decide +kernel
theorem dX1_cut_25 : decode cX1_cut 25 = .ok (.ireturn, 1) := by decide +kernel
set_option maxRecDepth 20000 in
theorem ggX1_toCome_X1_leaseOf : GoodIn wsX1_toCome wsX1_leaseOf := goodIn_ca (goodIn_r _ [5, 6, 7, 8, 16, 17] (by decide +kernel) (by decide +kernel)) (goodIn_sub (fun _ h => List.mem_cons_of_mem _ (List.mem_append_right _ h)) (by decide +kernel))
set_option maxRecDepth 20000 in
theorem gX1_toCome_X1_leaseOf : GoodIn wsX1_toCome (wsV RX1 37 RX1 yX1_leaseOf wsX1_leaseOf) := goodIn_app (goodIn_of _ (by decide +kernel)) ggX1_toCome_X1_leaseOf
set_option maxRecDepth 20000 in
theorem ggX1_toCome_X0_monthsLeft : GoodIn wsX1_toCome wsX0_monthsLeft := goodIn_r _ [13, 14, 15, 18, 19, 20, 21, 22, 23, 24, 25, 26, 27, 28] (by decide +kernel) (by decide +kernel)
set_option maxRecDepth 20000 in
theorem gX1_toCome_X0_monthsLeft : GoodIn wsX1_toCome (wsV RX1 67 RX0 yX0_monthsLeft wsX0_monthsLeft) := goodIn_app (goodIn_of _ (by decide +kernel)) ggX1_toCome_X0_monthsLeft
theorem dX1_toCome_0 : decode cX1_toCome 0 = .ok (.aload_n 0, 1) := by decide +kernel
theorem dX1_toCome_1 : decode cX1_toCome 1 = .ok (.iload_n 1, 1) := by decide +kernel
theorem dX1_toCome_2 : decode cX1_toCome 2 = .ok (.invokevirtual 37, 3) := by decide +kernel
theorem dX1_toCome_5 : decode cX1_toCome 5 = .ok (.invokevirtual 67, 3) := by decide +kernel
theorem dX1_toCome_8 : decode cX1_toCome 8 = .ok (.ireturn, 1) := by decide +kernel
set_option maxRecDepth 20000 in
theorem ggX1_payment_X1_leaseOf : GoodIn wsX1_payment wsX1_leaseOf := goodIn_ca (goodIn_r _ [7, 1, 2, 8, 21, 22] (by decide +kernel) (by decide +kernel)) (goodIn_sub (fun _ h => List.mem_cons_of_mem _ (List.mem_append_right _ h)) (by decide +kernel))
set_option maxRecDepth 20000 in
theorem gX1_payment_X1_leaseOf : GoodIn wsX1_payment (wsV RX1 37 RX1 yX1_leaseOf wsX1_leaseOf) := goodIn_app (goodIn_of _ (by decide +kernel)) ggX1_payment_X1_leaseOf
set_option maxRecDepth 20000 in
theorem ggX1_payment_X0_monthsLeft : GoodIn wsX1_payment wsX0_monthsLeft := goodIn_r _ [13, 14, 15, 23, 24, 25, 26, 27, 28, 29, 30, 31, 32, 33] (by decide +kernel) (by decide +kernel)
set_option maxRecDepth 20000 in
theorem gX1_payment_X0_monthsLeft : GoodIn wsX1_payment (wsV RX1 67 RX0 yX0_monthsLeft wsX0_monthsLeft) := goodIn_app (goodIn_of _ (by decide +kernel)) ggX1_payment_X0_monthsLeft
set_option maxRecDepth 20000 in
theorem ggX1_payment_X0_paymentIn : GoodIn wsX1_payment wsX0_paymentIn := goodIn_r _ [19, 20, 15, 23, 24, 25, 26, 27, 28, 29, 30, 31, 32, 33] (by decide +kernel) (by decide +kernel)
set_option maxRecDepth 20000 in
theorem gX1_payment_X0_paymentIn : GoodIn wsX1_payment (wsV RX1 84 RX0 yX0_paymentIn wsX0_paymentIn) := goodIn_app (goodIn_of _ (by decide +kernel)) ggX1_payment_X0_paymentIn
theorem dX1_payment_0 : decode cX1_payment 0 = .ok (.aload_n 0, 1) := by decide +kernel
theorem dX1_payment_1 : decode cX1_payment 1 = .ok (.iload_n 1, 1) := by decide +kernel
theorem dX1_payment_2 : decode cX1_payment 2 = .ok (.invokevirtual 37, 3) := by decide +kernel
theorem dX1_payment_5 : decode cX1_payment 5 = .ok (.astore_n 3, 1) := by decide +kernel
theorem dX1_payment_6 : decode cX1_payment 6 = .ok (.iload_n 2, 1) := by decide +kernel
theorem dX1_payment_7 : decode cX1_payment 7 = .ok (.ifCond .lt 11, 3) := by decide +kernel
theorem dX1_payment_10 : decode cX1_payment 10 = .ok (.iload_n 2, 1) := by decide +kernel
theorem dX1_payment_11 : decode cX1_payment 11 = .ok (.aload_n 3, 1) := by decide +kernel
theorem dX1_payment_12 : decode cX1_payment 12 = .ok (.invokevirtual 67, 3) := by decide +kernel
theorem dX1_payment_15 : decode cX1_payment 15 = .ok (.if_icmp .lt 13, 3) := by decide +kernel
theorem dX1_payment_18 : decode cX1_payment 18 = .ok (.new 79, 3) := by decide +kernel
theorem dX1_payment_21 : decode cX1_payment 21 = .ok (.dup, 1) := by decide +kernel
theorem dX1_payment_22 : decode cX1_payment 22 = .ok (.ldc 81, 2) := by decide +kernel
theorem dX1_payment_24 : decode cX1_payment 24 = .ok (.invokespecial 83, 3) := by decide +kernel
theorem dX1_payment_27 : decode cX1_payment 27 = .ok (.athrow, 1) := by decide +kernel
theorem dX1_payment_28 : decode cX1_payment 28 = .ok (.aload_n 3, 1) := by decide +kernel
theorem dX1_payment_29 : decode cX1_payment 29 = .ok (.iload_n 2, 1) := by decide +kernel
theorem dX1_payment_30 : decode cX1_payment 30 = .ok (.invokevirtual 84, 3) := by decide +kernel
theorem dX1_payment_33 : decode cX1_payment 33 = .ok (.ireturn, 1) := by decide +kernel
set_option maxRecDepth 20000 in
theorem ggX1_debt_X1_leaseOf : GoodIn wsX1_debt wsX1_leaseOf := goodIn_ca (goodIn_r _ [5, 6, 7, 8, 16, 17] (by decide +kernel) (by decide +kernel)) (goodIn_sub (fun _ h => List.mem_cons_of_mem _ (List.mem_append_right _ h)) (by decide +kernel))
set_option maxRecDepth 20000 in
theorem gX1_debt_X1_leaseOf : GoodIn wsX1_debt (wsV RX1 37 RX1 yX1_leaseOf wsX1_leaseOf) := goodIn_app (goodIn_of _ (by decide +kernel)) ggX1_debt_X1_leaseOf
set_option maxRecDepth 20000 in
theorem ggX1_debt_X0_debtNow : GoodIn wsX1_debt wsX0_debtNow := goodIn_r _ [13, 14, 15, 18, 19, 20, 21, 22, 23, 24, 25, 26, 27, 28] (by decide +kernel) (by decide +kernel)
set_option maxRecDepth 20000 in
theorem gX1_debt_X0_debtNow : GoodIn wsX1_debt (wsV RX1 54 RX0 yX0_debtNow wsX0_debtNow) := goodIn_app (goodIn_of _ (by decide +kernel)) ggX1_debt_X0_debtNow
theorem dX1_debt_0 : decode cX1_debt 0 = .ok (.aload_n 0, 1) := by decide +kernel
theorem dX1_debt_1 : decode cX1_debt 1 = .ok (.iload_n 1, 1) := by decide +kernel
theorem dX1_debt_2 : decode cX1_debt 2 = .ok (.invokevirtual 37, 3) := by decide +kernel
theorem dX1_debt_5 : decode cX1_debt 5 = .ok (.invokevirtual 54, 3) := by decide +kernel
theorem dX1_debt_8 : decode cX1_debt 8 = .ok (.ireturn, 1) := by decide +kernel
set_option maxRecDepth 20000 in
theorem ggX1_debtByWorth_X1_leaseOf : GoodIn wsX1_debtByWorth wsX1_leaseOf := goodIn_ca (goodIn_r _ [5, 6, 7, 8, 32, 33] (by decide +kernel) (by decide +kernel)) (goodIn_sub (fun _ h => List.mem_cons_of_mem _ (List.mem_append_right _ h)) (by decide +kernel))
set_option maxRecDepth 20000 in
theorem gX1_debtByWorth_X1_leaseOf : GoodIn wsX1_debtByWorth (wsV RX1 37 RX1 yX1_leaseOf wsX1_leaseOf) := goodIn_app (goodIn_of _ (by decide +kernel)) ggX1_debtByWorth_X1_leaseOf
set_option maxRecDepth 20000 in
theorem ggX1_debtByWorth_X0_worthAt : GoodIn wsX1_debtByWorth wsX0_worthAt := goodIn_r _ [13, 14, 15, 16, 17, 18, 12, 19, 20, 21, 22, 23, 24, 25, 26, 27, 28, 29, 30, 31] (by decide +kernel) (by decide +kernel)
set_option maxRecDepth 20000 in
theorem gX1_debtByWorth_X0_worthAt : GoodIn wsX1_debtByWorth (wsV RX1 90 RX0 yX0_worthAt wsX0_worthAt) := goodIn_app (goodIn_of _ (by decide +kernel)) ggX1_debtByWorth_X0_worthAt
theorem dX1_debtByWorth_0 : decode cX1_debtByWorth 0 = .ok (.aload_n 0, 1) := by decide +kernel
theorem dX1_debtByWorth_1 : decode cX1_debtByWorth 1 = .ok (.iload_n 1, 1) := by decide +kernel
theorem dX1_debtByWorth_2 : decode cX1_debtByWorth 2 = .ok (.invokevirtual 37, 3) := by decide +kernel
theorem dX1_debtByWorth_5 : decode cX1_debtByWorth 5 = .ok (.astore_n 2, 1) := by decide +kernel
theorem dX1_debtByWorth_6 : decode cX1_debtByWorth 6 = .ok (.aload_n 2, 1) := by decide +kernel
theorem dX1_debtByWorth_7 : decode cX1_debtByWorth 7 = .ok (.aload_n 2, 1) := by decide +kernel
theorem dX1_debtByWorth_8 : decode cX1_debtByWorth 8 = .ok (.getfield 87, 3) := by decide +kernel
theorem dX1_debtByWorth_11 : decode cX1_debtByWorth 11 = .ok (.invokevirtual 90, 3) := by decide +kernel
theorem dX1_debtByWorth_14 : decode cX1_debtByWorth 14 = .ok (.l2i, 1) := by decide +kernel
theorem dX1_debtByWorth_15 : decode cX1_debtByWorth 15 = .ok (.ireturn, 1) := by decide +kernel
set_option maxRecDepth 20000 in
theorem ggX1_right_X1_leaseOf : GoodIn wsX1_right wsX1_leaseOf := goodIn_ca (goodIn_r _ [5, 6, 7, 8, 20, 21] (by decide +kernel) (by decide +kernel)) (goodIn_sub (fun _ h => List.mem_cons_of_mem _ (List.mem_append_right _ h)) (by decide +kernel))
set_option maxRecDepth 20000 in
theorem gX1_right_X1_leaseOf : GoodIn wsX1_right (wsV RX1 37 RX1 yX1_leaseOf wsX1_leaseOf) := goodIn_app (goodIn_of _ (by decide +kernel)) ggX1_right_X1_leaseOf
theorem dX1_right_0 : decode cX1_right 0 = .ok (.aload_n 0, 1) := by decide +kernel
theorem dX1_right_1 : decode cX1_right 1 = .ok (.iload_n 1, 1) := by decide +kernel
theorem dX1_right_2 : decode cX1_right 2 = .ok (.invokevirtual 37, 3) := by decide +kernel
theorem dX1_right_5 : decode cX1_right 5 = .ok (.getfield 94, 3) := by decide +kernel
theorem dX1_right_8 : decode cX1_right 8 = .ok (.l2i, 1) := by decide +kernel
theorem dX1_right_9 : decode cX1_right 9 = .ok (.ireturn, 1) := by decide +kernel
set_option maxRecDepth 20000 in
theorem ggX1_interest_X1_leaseOf : GoodIn wsX1_interest wsX1_leaseOf := goodIn_ca (goodIn_r _ [5, 6, 7, 8, 20, 21] (by decide +kernel) (by decide +kernel)) (goodIn_sub (fun _ h => List.mem_cons_of_mem _ (List.mem_append_right _ h)) (by decide +kernel))
set_option maxRecDepth 20000 in
theorem gX1_interest_X1_leaseOf : GoodIn wsX1_interest (wsV RX1 37 RX1 yX1_leaseOf wsX1_leaseOf) := goodIn_app (goodIn_of _ (by decide +kernel)) ggX1_interest_X1_leaseOf
theorem dX1_interest_0 : decode cX1_interest 0 = .ok (.aload_n 0, 1) := by decide +kernel
theorem dX1_interest_1 : decode cX1_interest 1 = .ok (.iload_n 1, 1) := by decide +kernel
theorem dX1_interest_2 : decode cX1_interest 2 = .ok (.invokevirtual 37, 3) := by decide +kernel
theorem dX1_interest_5 : decode cX1_interest 5 = .ok (.getfield 98, 3) := by decide +kernel
theorem dX1_interest_8 : decode cX1_interest 8 = .ok (.l2i, 1) := by decide +kernel
theorem dX1_interest_9 : decode cX1_interest 9 = .ok (.ireturn, 1) := by decide +kernel
set_option maxRecDepth 20000 in
theorem ggX1_written_X1_leaseOf : GoodIn wsX1_written wsX1_leaseOf := goodIn_ca (goodIn_r _ [5, 6, 7, 8, 20, 21] (by decide +kernel) (by decide +kernel)) (goodIn_sub (fun _ h => List.mem_cons_of_mem _ (List.mem_append_right _ h)) (by decide +kernel))
set_option maxRecDepth 20000 in
theorem gX1_written_X1_leaseOf : GoodIn wsX1_written (wsV RX1 37 RX1 yX1_leaseOf wsX1_leaseOf) := goodIn_app (goodIn_of _ (by decide +kernel)) ggX1_written_X1_leaseOf
theorem dX1_written_0 : decode cX1_written 0 = .ok (.aload_n 0, 1) := by decide +kernel
theorem dX1_written_1 : decode cX1_written 1 = .ok (.iload_n 1, 1) := by decide +kernel
theorem dX1_written_2 : decode cX1_written 2 = .ok (.invokevirtual 37, 3) := by decide +kernel
theorem dX1_written_5 : decode cX1_written 5 = .ok (.getfield 101, 3) := by decide +kernel
theorem dX1_written_8 : decode cX1_written 8 = .ok (.l2i, 1) := by decide +kernel
theorem dX1_written_9 : decode cX1_written 9 = .ok (.ireturn, 1) := by decide +kernel
set_option maxRecDepth 20000 in
theorem ggX1_paid_X1_leaseOf : GoodIn wsX1_paid wsX1_leaseOf := goodIn_ca (goodIn_r _ [5, 6, 7, 8, 20, 21] (by decide +kernel) (by decide +kernel)) (goodIn_sub (fun _ h => List.mem_cons_of_mem _ (List.mem_append_right _ h)) (by decide +kernel))
set_option maxRecDepth 20000 in
theorem gX1_paid_X1_leaseOf : GoodIn wsX1_paid (wsV RX1 37 RX1 yX1_leaseOf wsX1_leaseOf) := goodIn_app (goodIn_of _ (by decide +kernel)) ggX1_paid_X1_leaseOf
theorem dX1_paid_0 : decode cX1_paid 0 = .ok (.aload_n 0, 1) := by decide +kernel
theorem dX1_paid_1 : decode cX1_paid 1 = .ok (.iload_n 1, 1) := by decide +kernel
theorem dX1_paid_2 : decode cX1_paid 2 = .ok (.invokevirtual 37, 3) := by decide +kernel
theorem dX1_paid_5 : decode cX1_paid 5 = .ok (.getfield 104, 3) := by decide +kernel
theorem dX1_paid_8 : decode cX1_paid 8 = .ok (.l2i, 1) := by decide +kernel
theorem dX1_paid_9 : decode cX1_paid 9 = .ok (.ireturn, 1) := by decide +kernel
set_option maxRecDepth 20000 in
theorem ggX1_gains_X1_leaseOf : GoodIn wsX1_gains wsX1_leaseOf := goodIn_ca (goodIn_r _ [5, 6, 7, 8, 20, 21] (by decide +kernel) (by decide +kernel)) (goodIn_sub (fun _ h => List.mem_cons_of_mem _ (List.mem_append_right _ h)) (by decide +kernel))
set_option maxRecDepth 20000 in
theorem gX1_gains_X1_leaseOf : GoodIn wsX1_gains (wsV RX1 37 RX1 yX1_leaseOf wsX1_leaseOf) := goodIn_app (goodIn_of _ (by decide +kernel)) ggX1_gains_X1_leaseOf
theorem dX1_gains_0 : decode cX1_gains 0 = .ok (.aload_n 0, 1) := by decide +kernel
theorem dX1_gains_1 : decode cX1_gains 1 = .ok (.iload_n 1, 1) := by decide +kernel
theorem dX1_gains_2 : decode cX1_gains 2 = .ok (.invokevirtual 37, 3) := by decide +kernel
theorem dX1_gains_5 : decode cX1_gains 5 = .ok (.getfield 107, 3) := by decide +kernel
theorem dX1_gains_8 : decode cX1_gains 8 = .ok (.l2i, 1) := by decide +kernel
theorem dX1_gains_9 : decode cX1_gains 9 = .ok (.ireturn, 1) := by decide +kernel
set_option maxRecDepth 20000 in
theorem ggX1_rateFor_X1_leaseOf : GoodIn wsX1_rateFor wsX1_leaseOf := goodIn_ca (goodIn_r _ [6, 7, 8, 9, 27, 28] (by decide +kernel) (by decide +kernel)) (goodIn_sub (fun _ h => List.mem_cons_of_mem _ (List.mem_append_left _ (List.mem_append_right _ h))) (by decide +kernel))
set_option maxRecDepth 20000 in
theorem gX1_rateFor_X1_leaseOf : GoodIn wsX1_rateFor (wsV RX1 37 RX1 yX1_leaseOf wsX1_leaseOf) := goodIn_app (goodIn_of _ (by decide +kernel)) ggX1_rateFor_X1_leaseOf
set_option maxRecDepth 20000 in
theorem ggX1_rateFor_X1_mustBeWithin : GoodIn wsX1_rateFor wsX1_mustBeWithin := goodIn_ca (goodIn_r _ [12, 13, 14] (by decide +kernel) (by decide +kernel)) (goodIn_sub (fun _ h => List.mem_cons_of_mem _ (List.mem_append_right _ h)) (by decide +kernel))
set_option maxRecDepth 20000 in
theorem gX1_rateFor_X1_mustBeWithin : GoodIn wsX1_rateFor (va_wsS RX1 19 yX1_mustBeWithin wsX1_mustBeWithin) := goodIn_app (goodIn_of _ (by decide +kernel)) ggX1_rateFor_X1_mustBeWithin
set_option maxRecDepth 20000 in
theorem ggX1_rateFor_X0_worthAt : GoodIn wsX1_rateFor wsX0_worthAt := goodIn_r _ [19, 20, 21, 22, 23, 24, 18, 25, 26, 29, 30, 31, 32, 33, 34, 35, 36, 37, 38, 39] (by decide +kernel) (by decide +kernel)
set_option maxRecDepth 20000 in
theorem gX1_rateFor_X0_worthAt : GoodIn wsX1_rateFor (wsV RX1 90 RX0 yX0_worthAt wsX0_worthAt) := goodIn_app (goodIn_of _ (by decide +kernel)) ggX1_rateFor_X0_worthAt
theorem dX1_rateFor_0 : decode cX1_rateFor 0 = .ok (.aload_n 0, 1) := by decide +kernel
theorem dX1_rateFor_1 : decode cX1_rateFor 1 = .ok (.iload_n 1, 1) := by decide +kernel
theorem dX1_rateFor_2 : decode cX1_rateFor 2 = .ok (.invokevirtual 37, 3) := by decide +kernel
theorem dX1_rateFor_5 : decode cX1_rateFor 5 = .ok (.astore_n 3, 1) := by decide +kernel
theorem dX1_rateFor_6 : decode cX1_rateFor 6 = .ok (.iload_n 2, 1) := by decide +kernel
theorem dX1_rateFor_7 : decode cX1_rateFor 7 = .ok (.iconst 0, 1) := by decide +kernel
theorem dX1_rateFor_8 : decode cX1_rateFor 8 = .ok (.ldc 110, 2) := by decide +kernel
theorem dX1_rateFor_10 : decode cX1_rateFor 10 = .ok (.invokestatic 19, 3) := by decide +kernel
theorem dX1_rateFor_13 : decode cX1_rateFor 13 = .ok (.aload_n 3, 1) := by decide +kernel
theorem dX1_rateFor_14 : decode cX1_rateFor 14 = .ok (.sipush 20000, 3) := by decide +kernel
theorem dX1_rateFor_17 : decode cX1_rateFor 17 = .ok (.invokevirtual 90, 3) := by decide +kernel
theorem dX1_rateFor_20 : decode cX1_rateFor 20 = .ok (.iload_n 2, 1) := by decide +kernel
theorem dX1_rateFor_21 : decode cX1_rateFor 21 = .ok (.i2l, 1) := by decide +kernel
theorem dX1_rateFor_22 : decode cX1_rateFor 22 = .ok (.lcmp, 1) := by decide +kernel
theorem dX1_rateFor_23 : decode cX1_rateFor 23 = .ok (.ifCond .le 5, 3) := by decide +kernel
theorem dX1_rateFor_26 : decode cX1_rateFor 26 = .ok (.iconst (-1), 1) := by decide +kernel
theorem dX1_rateFor_27 : decode cX1_rateFor 27 = .ok (.ireturn, 1) := by decide +kernel
theorem dX1_rateFor_28 : decode cX1_rateFor 28 = .ok (.iconst 0, 1) := by decide +kernel
theorem dX1_rateFor_29 : decode cX1_rateFor 29 = .ok (.istore 4, 2) := by decide +kernel
theorem dX1_rateFor_31 : decode cX1_rateFor 31 = .ok (.sipush 20000, 3) := by decide +kernel
theorem dX1_rateFor_34 : decode cX1_rateFor 34 = .ok (.istore 5, 2) := by decide +kernel
theorem dX1_rateFor_36 : decode cX1_rateFor 36 = .ok (.iconst 0, 1) := by decide +kernel
theorem dX1_rateFor_37 : decode cX1_rateFor 37 = .ok (.istore 6, 2) := by decide +kernel
theorem dX1_rateFor_39 : decode cX1_rateFor 39 = .ok (.iload 6, 2) := by decide +kernel
theorem dX1_rateFor_41 : decode cX1_rateFor 41 = .ok (.sipush 20000, 3) := by decide +kernel
theorem dX1_rateFor_44 : decode cX1_rateFor 44 = .ok (.if_icmp .ge 50, 3) := by decide +kernel
theorem dX1_rateFor_47 : decode cX1_rateFor 47 = .ok (.iload 4, 2) := by decide +kernel
theorem dX1_rateFor_49 : decode cX1_rateFor 49 = .ok (.iload 5, 2) := by decide +kernel
theorem dX1_rateFor_51 : decode cX1_rateFor 51 = .ok (.if_icmp .ge 43, 3) := by decide +kernel
theorem dX1_rateFor_54 : decode cX1_rateFor 54 = .ok (.iload 4, 2) := by decide +kernel
theorem dX1_rateFor_56 : decode cX1_rateFor 56 = .ok (.iload 5, 2) := by decide +kernel
theorem dX1_rateFor_58 : decode cX1_rateFor 58 = .ok (.iadd, 1) := by decide +kernel
theorem dX1_rateFor_59 : decode cX1_rateFor 59 = .ok (.iconst 2, 1) := by decide +kernel
theorem dX1_rateFor_60 : decode cX1_rateFor 60 = .ok (.idiv, 1) := by decide +kernel
theorem dX1_rateFor_61 : decode cX1_rateFor 61 = .ok (.istore 7, 2) := by decide +kernel
theorem dX1_rateFor_63 : decode cX1_rateFor 63 = .ok (.aload_n 3, 1) := by decide +kernel
theorem dX1_rateFor_64 : decode cX1_rateFor 64 = .ok (.iload 7, 2) := by decide +kernel
theorem dX1_rateFor_66 : decode cX1_rateFor 66 = .ok (.invokevirtual 90, 3) := by decide +kernel
theorem dX1_rateFor_69 : decode cX1_rateFor 69 = .ok (.iload_n 2, 1) := by decide +kernel
theorem dX1_rateFor_70 : decode cX1_rateFor 70 = .ok (.i2l, 1) := by decide +kernel
theorem dX1_rateFor_71 : decode cX1_rateFor 71 = .ok (.lcmp, 1) := by decide +kernel
theorem dX1_rateFor_72 : decode cX1_rateFor 72 = .ok (.ifCond .gt 10, 3) := by decide +kernel
theorem dX1_rateFor_75 : decode cX1_rateFor 75 = .ok (.iload 7, 2) := by decide +kernel
theorem dX1_rateFor_77 : decode cX1_rateFor 77 = .ok (.istore 5, 2) := by decide +kernel
theorem dX1_rateFor_79 : decode cX1_rateFor 79 = .ok (.goto 9, 3) := by decide +kernel
theorem dX1_rateFor_82 : decode cX1_rateFor 82 = .ok (.iload 7, 2) := by decide +kernel
theorem dX1_rateFor_84 : decode cX1_rateFor 84 = .ok (.iconst 1, 1) := by decide +kernel
theorem dX1_rateFor_85 : decode cX1_rateFor 85 = .ok (.iadd, 1) := by decide +kernel
theorem dX1_rateFor_86 : decode cX1_rateFor 86 = .ok (.istore 4, 2) := by decide +kernel
theorem dX1_rateFor_88 : decode cX1_rateFor 88 = .ok (.iinc 6 1, 3) := by decide +kernel
theorem dX1_rateFor_91 : decode cX1_rateFor 91 = .ok (.goto (-52), 3) := by decide +kernel
theorem dX1_rateFor_94 : decode cX1_rateFor 94 = .ok (.iload 4, 2) := by decide +kernel
theorem dX1_rateFor_96 : decode cX1_rateFor 96 = .ok (.ireturn, 1) := by decide +kernel
set_option maxRecDepth 20000 in
theorem ggX1_saleGain_X1_leaseOf : GoodIn wsX1_saleGain wsX1_leaseOf := goodIn_ca (goodIn_r _ [6, 7, 8, 9, 22, 23] (by decide +kernel) (by decide +kernel)) (goodIn_sub (fun _ h => List.mem_cons_of_mem _ (List.mem_append_left _ (List.mem_append_right _ h))) (by decide +kernel))
set_option maxRecDepth 20000 in
theorem gX1_saleGain_X1_leaseOf : GoodIn wsX1_saleGain (wsV RX1 37 RX1 yX1_leaseOf wsX1_leaseOf) := goodIn_app (goodIn_of _ (by decide +kernel)) ggX1_saleGain_X1_leaseOf
set_option maxRecDepth 20000 in
theorem ggX1_saleGain_X1_mustBeWithin : GoodIn wsX1_saleGain wsX1_mustBeWithin := goodIn_ca (goodIn_r _ [12, 13, 14] (by decide +kernel) (by decide +kernel)) (goodIn_sub (fun _ h => List.mem_cons_of_mem _ (List.mem_append_right _ h)) (by decide +kernel))
set_option maxRecDepth 20000 in
theorem gX1_saleGain_X1_mustBeWithin : GoodIn wsX1_saleGain (va_wsS RX1 19 yX1_mustBeWithin wsX1_mustBeWithin) := goodIn_app (goodIn_of _ (by decide +kernel)) ggX1_saleGain_X1_mustBeWithin
set_option maxRecDepth 20000 in
theorem ggX1_saleGain_X0_debtNow : GoodIn wsX1_saleGain wsX0_debtNow := goodIn_r _ [19, 20, 21, 24, 25, 26, 27, 28, 29, 30, 31, 32, 33, 34] (by decide +kernel) (by decide +kernel)
set_option maxRecDepth 20000 in
theorem gX1_saleGain_X0_debtNow : GoodIn wsX1_saleGain (wsV RX1 54 RX0 yX0_debtNow wsX0_debtNow) := goodIn_app (goodIn_of _ (by decide +kernel)) ggX1_saleGain_X0_debtNow
theorem dX1_saleGain_0 : decode cX1_saleGain 0 = .ok (.aload_n 0, 1) := by decide +kernel
theorem dX1_saleGain_1 : decode cX1_saleGain 1 = .ok (.iload_n 1, 1) := by decide +kernel
theorem dX1_saleGain_2 : decode cX1_saleGain 2 = .ok (.invokevirtual 37, 3) := by decide +kernel
theorem dX1_saleGain_5 : decode cX1_saleGain 5 = .ok (.astore 4, 2) := by decide +kernel
theorem dX1_saleGain_7 : decode cX1_saleGain 7 = .ok (.iload_n 2, 1) := by decide +kernel
theorem dX1_saleGain_8 : decode cX1_saleGain 8 = .ok (.iconst 0, 1) := by decide +kernel
theorem dX1_saleGain_9 : decode cX1_saleGain 9 = .ok (.ldc 110, 2) := by decide +kernel
theorem dX1_saleGain_11 : decode cX1_saleGain 11 = .ok (.invokestatic 19, 3) := by decide +kernel
theorem dX1_saleGain_14 : decode cX1_saleGain 14 = .ok (.iload_n 3, 1) := by decide +kernel
theorem dX1_saleGain_15 : decode cX1_saleGain 15 = .ok (.iconst 1, 1) := by decide +kernel
theorem dX1_saleGain_16 : decode cX1_saleGain 16 = .ok (.ldc 110, 2) := by decide +kernel
theorem dX1_saleGain_18 : decode cX1_saleGain 18 = .ok (.invokestatic 19, 3) := by decide +kernel
theorem dX1_saleGain_21 : decode cX1_saleGain 21 = .ok (.aload 4, 2) := by decide +kernel
theorem dX1_saleGain_23 : decode cX1_saleGain 23 = .ok (.invokevirtual 54, 3) := by decide +kernel
theorem dX1_saleGain_26 : decode cX1_saleGain 26 = .ok (.i2l, 1) := by decide +kernel
theorem dX1_saleGain_27 : decode cX1_saleGain 27 = .ok (.lstore 5, 2) := by decide +kernel
theorem dX1_saleGain_29 : decode cX1_saleGain 29 = .ok (.iload_n 3, 1) := by decide +kernel
theorem dX1_saleGain_30 : decode cX1_saleGain 30 = .ok (.iconst 1, 1) := by decide +kernel
theorem dX1_saleGain_31 : decode cX1_saleGain 31 = .ok (.if_icmp .lt 11, 3) := by decide +kernel
theorem dX1_saleGain_34 : decode cX1_saleGain 34 = .ok (.lload 5, 2) := by decide +kernel
theorem dX1_saleGain_36 : decode cX1_saleGain 36 = .ok (.iload_n 3, 1) := by decide +kernel
theorem dX1_saleGain_37 : decode cX1_saleGain 37 = .ok (.i2l, 1) := by decide +kernel
theorem dX1_saleGain_38 : decode cX1_saleGain 38 = .ok (.lcmp, 1) := by decide +kernel
theorem dX1_saleGain_39 : decode cX1_saleGain 39 = .ok (.ifCond .lt 5, 3) := by decide +kernel
theorem dX1_saleGain_42 : decode cX1_saleGain 42 = .ok (.iconst 0, 1) := by decide +kernel
theorem dX1_saleGain_43 : decode cX1_saleGain 43 = .ok (.ireturn, 1) := by decide +kernel
theorem dX1_saleGain_44 : decode cX1_saleGain 44 = .ok (.iload_n 3, 1) := by decide +kernel
theorem dX1_saleGain_45 : decode cX1_saleGain 45 = .ok (.iload_n 2, 1) := by decide +kernel
theorem dX1_saleGain_46 : decode cX1_saleGain 46 = .ok (.isub, 1) := by decide +kernel
theorem dX1_saleGain_47 : decode cX1_saleGain 47 = .ok (.i2l, 1) := by decide +kernel
theorem dX1_saleGain_48 : decode cX1_saleGain 48 = .ok (.iload_n 3, 1) := by decide +kernel
theorem dX1_saleGain_49 : decode cX1_saleGain 49 = .ok (.i2l, 1) := by decide +kernel
theorem dX1_saleGain_50 : decode cX1_saleGain 50 = .ok (.lload 5, 2) := by decide +kernel
theorem dX1_saleGain_52 : decode cX1_saleGain 52 = .ok (.lsub, 1) := by decide +kernel
theorem dX1_saleGain_53 : decode cX1_saleGain 53 = .ok (.lmul, 1) := by decide +kernel
theorem dX1_saleGain_54 : decode cX1_saleGain 54 = .ok (.iload_n 3, 1) := by decide +kernel
theorem dX1_saleGain_55 : decode cX1_saleGain 55 = .ok (.i2l, 1) := by decide +kernel
theorem dX1_saleGain_56 : decode cX1_saleGain 56 = .ok (.ldiv, 1) := by decide +kernel
theorem dX1_saleGain_57 : decode cX1_saleGain 57 = .ok (.l2i, 1) := by decide +kernel
theorem dX1_saleGain_58 : decode cX1_saleGain 58 = .ok (.ireturn, 1) := by decide +kernel
theorem dX1_mustBeWithin_0 : decode cX1_mustBeWithin 0 = .ok (.iload_n 0, 1) := by decide +kernel
theorem dX1_mustBeWithin_1 : decode cX1_mustBeWithin 1 = .ok (.iload_n 1, 1) := by decide +kernel
theorem dX1_mustBeWithin_2 : decode cX1_mustBeWithin 2 = .ok (.if_icmp .lt 8, 3) := by decide +kernel
theorem dX1_mustBeWithin_5 : decode cX1_mustBeWithin 5 = .ok (.iload_n 0, 1) := by decide +kernel
theorem dX1_mustBeWithin_6 : decode cX1_mustBeWithin 6 = .ok (.iload_n 2, 1) := by decide +kernel
theorem dX1_mustBeWithin_7 : decode cX1_mustBeWithin 7 = .ok (.if_icmp .le 13, 3) := by decide +kernel
theorem dX1_mustBeWithin_10 : decode cX1_mustBeWithin 10 = .ok (.new 111, 3) := by decide +kernel
theorem dX1_mustBeWithin_13 : decode cX1_mustBeWithin 13 = .ok (.dup, 1) := by decide +kernel
theorem dX1_mustBeWithin_14 : decode cX1_mustBeWithin 14 = .ok (.ldc 113, 2) := by decide +kernel
theorem dX1_mustBeWithin_16 : decode cX1_mustBeWithin 16 = .ok (.invokespecial 115, 3) := by decide +kernel
theorem dX1_mustBeWithin_19 : decode cX1_mustBeWithin 19 = .ok (.athrow, 1) := by decide +kernel
theorem dX1_mustBeWithin_20 : decode cX1_mustBeWithin 20 = .ok (.return_, 1) := by decide +kernel
set_option maxRecDepth 20000 in
theorem ggX1_mustGoOn_X0_monthsLeft : GoodIn wsX1_mustGoOn wsX0_monthsLeft := goodIn_r _ [7, 8, 9, 10, 11, 12, 13, 14, 15, 16, 17, 18, 19, 20] (by decide +kernel) (by decide +kernel)
set_option maxRecDepth 20000 in
theorem gX1_mustGoOn_X0_monthsLeft : GoodIn wsX1_mustGoOn (wsV RX1 67 RX0 yX0_monthsLeft wsX0_monthsLeft) := goodIn_app (goodIn_of _ (by decide +kernel)) ggX1_mustGoOn_X0_monthsLeft
theorem dX1_mustGoOn_0 : decode cX1_mustGoOn 0 = .ok (.aload_n 0, 1) := by decide +kernel
theorem dX1_mustGoOn_1 : decode cX1_mustGoOn 1 = .ok (.invokevirtual 67, 3) := by decide +kernel
theorem dX1_mustGoOn_4 : decode cX1_mustGoOn 4 = .ok (.ifCond .ne 13, 3) := by decide +kernel
theorem dX1_mustGoOn_7 : decode cX1_mustGoOn 7 = .ok (.new 23, 3) := by decide +kernel
theorem dX1_mustGoOn_10 : decode cX1_mustGoOn 10 = .ok (.dup, 1) := by decide +kernel
theorem dX1_mustGoOn_11 : decode cX1_mustGoOn 11 = .ok (.ldc 116, 2) := by decide +kernel
theorem dX1_mustGoOn_13 : decode cX1_mustGoOn 13 = .ok (.invokespecial 27, 3) := by decide +kernel
theorem dX1_mustGoOn_16 : decode cX1_mustGoOn 16 = .ok (.athrow, 1) := by decide +kernel
theorem dX1_mustGoOn_17 : decode cX1_mustGoOn 17 = .ok (.return_, 1) := by decide +kernel
theorem dX1_leaseOf_0 : decode cX1_leaseOf 0 = .ok (.iload_n 1, 1) := by decide +kernel
theorem dX1_leaseOf_1 : decode cX1_leaseOf 1 = .ok (.ifCond .lt 12, 3) := by decide +kernel
theorem dX1_leaseOf_4 : decode cX1_leaseOf 4 = .ok (.iload_n 1, 1) := by decide +kernel
theorem dX1_leaseOf_5 : decode cX1_leaseOf 5 = .ok (.aload_n 0, 1) := by decide +kernel
theorem dX1_leaseOf_6 : decode cX1_leaseOf 6 = .ok (.getfield 11, 3) := by decide +kernel
theorem dX1_leaseOf_9 : decode cX1_leaseOf 9 = .ok (.arraylength, 1) := by decide +kernel
theorem dX1_leaseOf_10 : decode cX1_leaseOf 10 = .ok (.if_icmp .lt 13, 3) := by decide +kernel
theorem dX1_leaseOf_13 : decode cX1_leaseOf 13 = .ok (.new 79, 3) := by decide +kernel
theorem dX1_leaseOf_16 : decode cX1_leaseOf 16 = .ok (.dup, 1) := by decide +kernel
theorem dX1_leaseOf_17 : decode cX1_leaseOf 17 = .ok (.ldc 118, 2) := by decide +kernel
theorem dX1_leaseOf_19 : decode cX1_leaseOf 19 = .ok (.invokespecial 83, 3) := by decide +kernel
theorem dX1_leaseOf_22 : decode cX1_leaseOf 22 = .ok (.athrow, 1) := by decide +kernel
theorem dX1_leaseOf_23 : decode cX1_leaseOf 23 = .ok (.aload_n 0, 1) := by decide +kernel
theorem dX1_leaseOf_24 : decode cX1_leaseOf 24 = .ok (.getfield 11, 3) := by decide +kernel
theorem dX1_leaseOf_27 : decode cX1_leaseOf 27 = .ok (.iload_n 1, 1) := by decide +kernel
theorem dX1_leaseOf_28 : decode cX1_leaseOf 28 = .ok (.aaload, 1) := by decide +kernel
theorem dX1_leaseOf_29 : decode cX1_leaseOf 29 = .ok (.astore_n 2, 1) := by decide +kernel
theorem dX1_leaseOf_30 : decode cX1_leaseOf 30 = .ok (.aload_n 2, 1) := by decide +kernel
theorem dX1_leaseOf_31 : decode cX1_leaseOf 31 = .ok (.ifnonnull 13, 3) := by decide +kernel
theorem dX1_leaseOf_34 : decode cX1_leaseOf 34 = .ok (.new 79, 3) := by decide +kernel
theorem dX1_leaseOf_37 : decode cX1_leaseOf 37 = .ok (.dup, 1) := by decide +kernel
theorem dX1_leaseOf_38 : decode cX1_leaseOf 38 = .ok (.ldc 118, 2) := by decide +kernel
theorem dX1_leaseOf_40 : decode cX1_leaseOf 40 = .ok (.invokespecial 83, 3) := by decide +kernel
theorem dX1_leaseOf_43 : decode cX1_leaseOf 43 = .ok (.athrow, 1) := by decide +kernel
theorem dX1_leaseOf_44 : decode cX1_leaseOf 44 = .ok (.aload_n 2, 1) := by decide +kernel
theorem dX1_leaseOf_45 : decode cX1_leaseOf 45 = .ok (.areturn, 1) := by decide +kernel
end
section
theorem dX2_init_0 : decode cX2_init 0 = .ok (.aload_n 0, 1) := by decide +kernel
theorem dX2_init_1 : decode cX2_init 1 = .ok (.invokespecial 1, 3) := by decide +kernel
theorem dX2_init_4 : decode cX2_init 4 = .ok (.aload_n 0, 1) := by decide +kernel
theorem dX2_init_5 : decode cX2_init 5 = .ok (.sipush 720, 3) := by decide +kernel
theorem dX2_init_8 : decode cX2_init 8 = .ok (.newarray .int, 2) := by decide +kernel
theorem dX2_init_10 : decode cX2_init 10 = .ok (.putfield 7, 3) := by decide +kernel
theorem dX2_init_13 : decode cX2_init 13 = .ok (.aload_n 0, 1) := by decide +kernel
theorem dX2_init_14 : decode cX2_init 14 = .ok (.bipush 6, 2) := by decide +kernel
theorem dX2_init_16 : decode cX2_init 16 = .ok (.newarray .int, 2) := by decide +kernel
theorem dX2_init_18 : decode cX2_init 18 = .ok (.putfield 13, 3) := by decide +kernel
theorem dX2_init_21 : decode cX2_init 21 = .ok (.aload_n 0, 1) := by decide +kernel
theorem dX2_init_22 : decode cX2_init 22 = .ok (.bipush 6, 2) := by decide +kernel
theorem dX2_init_24 : decode cX2_init 24 = .ok (.newarray .int, 2) := by decide +kernel
theorem dX2_init_26 : decode cX2_init 26 = .ok (.putfield 16, 3) := by decide +kernel
theorem dX2_init_29 : decode cX2_init 29 = .ok (.aload_n 0, 1) := by decide +kernel
theorem dX2_init_30 : decode cX2_init 30 = .ok (.bipush 6, 2) := by decide +kernel
theorem dX2_init_32 : decode cX2_init 32 = .ok (.newarray .int, 2) := by decide +kernel
theorem dX2_init_34 : decode cX2_init 34 = .ok (.putfield 19, 3) := by decide +kernel
theorem dX2_init_37 : decode cX2_init 37 = .ok (.aload_n 0, 1) := by decide +kernel
theorem dX2_init_38 : decode cX2_init 38 = .ok (.bipush 6, 2) := by decide +kernel
theorem dX2_init_40 : decode cX2_init 40 = .ok (.newarray .int, 2) := by decide +kernel
theorem dX2_init_42 : decode cX2_init 42 = .ok (.putfield 22, 3) := by decide +kernel
theorem dX2_init_45 : decode cX2_init 45 = .ok (.aload_n 0, 1) := by decide +kernel
theorem dX2_init_46 : decode cX2_init 46 = .ok (.bipush 6, 2) := by decide +kernel
theorem dX2_init_48 : decode cX2_init 48 = .ok (.newarray .int, 2) := by decide +kernel
theorem dX2_init_50 : decode cX2_init 50 = .ok (.putfield 25, 3) := by decide +kernel
theorem dX2_init_53 : decode cX2_init 53 = .ok (.aload_n 0, 1) := by decide +kernel
theorem dX2_init_54 : decode cX2_init 54 = .ok (.bipush 6, 2) := by decide +kernel
theorem dX2_init_56 : decode cX2_init 56 = .ok (.newarray .int, 2) := by decide +kernel
theorem dX2_init_58 : decode cX2_init 58 = .ok (.putfield 28, 3) := by decide +kernel
theorem dX2_init_61 : decode cX2_init 61 = .ok (.aload_n 0, 1) := by decide +kernel
theorem dX2_init_62 : decode cX2_init 62 = .ok (.bipush 6, 2) := by decide +kernel
theorem dX2_init_64 : decode cX2_init 64 = .ok (.newarray .int, 2) := by decide +kernel
theorem dX2_init_66 : decode cX2_init 66 = .ok (.putfield 31, 3) := by decide +kernel
theorem dX2_init_69 : decode cX2_init 69 = .ok (.aload_n 0, 1) := by decide +kernel
theorem dX2_init_70 : decode cX2_init 70 = .ok (.bipush 6, 2) := by decide +kernel
theorem dX2_init_72 : decode cX2_init 72 = .ok (.newarray .int, 2) := by decide +kernel
theorem dX2_init_74 : decode cX2_init 74 = .ok (.putfield 34, 3) := by decide +kernel
theorem dX2_init_77 : decode cX2_init 77 = .ok (.aload_n 0, 1) := by decide +kernel
theorem dX2_init_78 : decode cX2_init 78 = .ok (.bipush 6, 2) := by decide +kernel
theorem dX2_init_80 : decode cX2_init 80 = .ok (.newarray .int, 2) := by decide +kernel
theorem dX2_init_82 : decode cX2_init 82 = .ok (.putfield 37, 3) := by decide +kernel
theorem dX2_init_85 : decode cX2_init 85 = .ok (.aload_n 0, 1) := by decide +kernel
theorem dX2_init_86 : decode cX2_init 86 = .ok (.bipush 6, 2) := by decide +kernel
theorem dX2_init_88 : decode cX2_init 88 = .ok (.newarray .int, 2) := by decide +kernel
theorem dX2_init_90 : decode cX2_init 90 = .ok (.putfield 40, 3) := by decide +kernel
theorem dX2_init_93 : decode cX2_init 93 = .ok (.return_, 1) := by decide +kernel
theorem dX2_thrown_0 : decode cX2_thrown 0 = .ok (.aload_n 0, 1) := by decide +kernel
theorem dX2_thrown_1 : decode cX2_thrown 1 = .ok (.getfield 43, 3) := by decide +kernel
theorem dX2_thrown_4 : decode cX2_thrown 4 = .ok (.ireturn, 1) := by decide +kernel
theorem dX2_fails_0 : decode cX2_fails 0 = .ok (.aload_n 0, 1) := by decide +kernel
theorem dX2_fails_1 : decode cX2_fails 1 = .ok (.iload_n 1, 1) := by decide +kernel
theorem dX2_fails_2 : decode cX2_fails 2 = .ok (.putfield 43, 3) := by decide +kernel
theorem dX2_fails_5 : decode cX2_fails 5 = .ok (.iconst 0, 1) := by decide +kernel
theorem dX2_fails_6 : decode cX2_fails 6 = .ok (.ireturn, 1) := by decide +kernel
theorem dX2_in_0 : decode cX2_in 0 = .ok (.iload_n 0, 1) := by decide +kernel
theorem dX2_in_1 : decode cX2_in 1 = .ok (.iload_n 1, 1) := by decide +kernel
theorem dX2_in_2 : decode cX2_in 2 = .ok (.if_icmp .lt 12, 3) := by decide +kernel
theorem dX2_in_5 : decode cX2_in 5 = .ok (.iload_n 0, 1) := by decide +kernel
theorem dX2_in_6 : decode cX2_in 6 = .ok (.iload_n 2, 1) := by decide +kernel
theorem dX2_in_7 : decode cX2_in 7 = .ok (.if_icmp .gt 7, 3) := by decide +kernel
theorem dX2_in_10 : decode cX2_in 10 = .ok (.iconst 1, 1) := by decide +kernel
theorem dX2_in_11 : decode cX2_in 11 = .ok (.goto 4, 3) := by decide +kernel
theorem dX2_in_14 : decode cX2_in 14 = .ok (.iconst 0, 1) := by decide +kernel
theorem dX2_in_15 : decode cX2_in 15 = .ok (.ireturn, 1) := by decide +kernel
set_option maxRecDepth 20000 in
theorem ggX2_isNoLease_X2_in : GoodIn wsX2_isNoLease wsX2_in := goodIn_r _ [5] (by decide +kernel) (by decide +kernel)
set_option maxRecDepth 20000 in
theorem gX2_isNoLease_X2_in : GoodIn wsX2_isNoLease (va_wsS RX2 50 yX2_in wsX2_in) := goodIn_app (goodIn_of _ (by decide +kernel)) ggX2_isNoLease_X2_in
theorem dX2_isNoLease_0 : decode cX2_isNoLease 0 = .ok (.iload_n 1, 1) := by decide +kernel
theorem dX2_isNoLease_1 : decode cX2_isNoLease 1 = .ok (.iconst 0, 1) := by decide +kernel
theorem dX2_isNoLease_2 : decode cX2_isNoLease 2 = .ok (.aload_n 0, 1) := by decide +kernel
theorem dX2_isNoLease_3 : decode cX2_isNoLease 3 = .ok (.getfield 47, 3) := by decide +kernel
theorem dX2_isNoLease_6 : decode cX2_isNoLease 6 = .ok (.iconst 1, 1) := by decide +kernel
theorem dX2_isNoLease_7 : decode cX2_isNoLease 7 = .ok (.isub, 1) := by decide +kernel
theorem dX2_isNoLease_8 : decode cX2_isNoLease 8 = .ok (.invokestatic 50, 3) := by decide +kernel
theorem dX2_isNoLease_11 : decode cX2_isNoLease 11 = .ok (.ifCond .ne 7, 3) := by decide +kernel
theorem dX2_isNoLease_14 : decode cX2_isNoLease 14 = .ok (.iconst 1, 1) := by decide +kernel
theorem dX2_isNoLease_15 : decode cX2_isNoLease 15 = .ok (.goto 4, 3) := by decide +kernel
theorem dX2_isNoLease_18 : decode cX2_isNoLease 18 = .ok (.iconst 0, 1) := by decide +kernel
theorem dX2_isNoLease_19 : decode cX2_isNoLease 19 = .ok (.ireturn, 1) := by decide +kernel
theorem dX2_left_0 : decode cX2_left 0 = .ok (.aload_n 0, 1) := by decide +kernel
theorem dX2_left_1 : decode cX2_left 1 = .ok (.getfield 13, 3) := by decide +kernel
theorem dX2_left_4 : decode cX2_left 4 = .ok (.iload_n 1, 1) := by decide +kernel
theorem dX2_left_5 : decode cX2_left 5 = .ok (.iaload, 1) := by decide +kernel
theorem dX2_left_6 : decode cX2_left 6 = .ok (.aload_n 0, 1) := by decide +kernel
theorem dX2_left_7 : decode cX2_left 7 = .ok (.getfield 16, 3) := by decide +kernel
theorem dX2_left_10 : decode cX2_left 10 = .ok (.iload_n 1, 1) := by decide +kernel
theorem dX2_left_11 : decode cX2_left 11 = .ok (.iaload, 1) := by decide +kernel
theorem dX2_left_12 : decode cX2_left 12 = .ok (.isub, 1) := by decide +kernel
theorem dX2_left_13 : decode cX2_left 13 = .ok (.ireturn, 1) := by decide +kernel
theorem dX2_worth_0 : decode cX2_worth 0 = .ok (.lconst 0, 1) := by decide +kernel
theorem dX2_worth_1 : decode cX2_worth 1 = .ok (.lstore 4, 2) := by decide +kernel
theorem dX2_worth_3 : decode cX2_worth 3 = .ok (.ldc2_w 54, 3) := by decide +kernel
theorem dX2_worth_6 : decode cX2_worth 6 = .ok (.iload_n 3, 1) := by decide +kernel
theorem dX2_worth_7 : decode cX2_worth 7 = .ok (.i2l, 1) := by decide +kernel
theorem dX2_worth_8 : decode cX2_worth 8 = .ok (.ladd, 1) := by decide +kernel
theorem dX2_worth_9 : decode cX2_worth 9 = .ok (.lstore 6, 2) := by decide +kernel
theorem dX2_worth_11 : decode cX2_worth 11 = .ok (.aload_n 0, 1) := by decide +kernel
theorem dX2_worth_12 : decode cX2_worth 12 = .ok (.getfield 13, 3) := by decide +kernel
theorem dX2_worth_15 : decode cX2_worth 15 = .ok (.iload_n 1, 1) := by decide +kernel
theorem dX2_worth_16 : decode cX2_worth 16 = .ok (.iaload, 1) := by decide +kernel
theorem dX2_worth_17 : decode cX2_worth 17 = .ok (.iconst 1, 1) := by decide +kernel
theorem dX2_worth_18 : decode cX2_worth 18 = .ok (.isub, 1) := by decide +kernel
theorem dX2_worth_19 : decode cX2_worth 19 = .ok (.istore 8, 2) := by decide +kernel
theorem dX2_worth_21 : decode cX2_worth 21 = .ok (.iload 8, 2) := by decide +kernel
theorem dX2_worth_23 : decode cX2_worth 23 = .ok (.iload_n 2, 1) := by decide +kernel
theorem dX2_worth_24 : decode cX2_worth 24 = .ok (.if_icmp .lt 39, 3) := by decide +kernel
theorem dX2_worth_27 : decode cX2_worth 27 = .ok (.lload 4, 2) := by decide +kernel
theorem dX2_worth_29 : decode cX2_worth 29 = .ok (.aload_n 0, 1) := by decide +kernel
theorem dX2_worth_30 : decode cX2_worth 30 = .ok (.getfield 7, 3) := by decide +kernel
theorem dX2_worth_33 : decode cX2_worth 33 = .ok (.bipush 120, 2) := by decide +kernel
theorem dX2_worth_35 : decode cX2_worth 35 = .ok (.iload_n 1, 1) := by decide +kernel
theorem dX2_worth_36 : decode cX2_worth 36 = .ok (.imul, 1) := by decide +kernel
theorem dX2_worth_37 : decode cX2_worth 37 = .ok (.iload 8, 2) := by decide +kernel
theorem dX2_worth_39 : decode cX2_worth 39 = .ok (.iadd, 1) := by decide +kernel
theorem dX2_worth_40 : decode cX2_worth 40 = .ok (.iaload, 1) := by decide +kernel
theorem dX2_worth_41 : decode cX2_worth 41 = .ok (.i2l, 1) := by decide +kernel
theorem dX2_worth_42 : decode cX2_worth 42 = .ok (.ladd, 1) := by decide +kernel
theorem dX2_worth_43 : decode cX2_worth 43 = .ok (.ldc2_w 54, 3) := by decide +kernel
theorem dX2_worth_46 : decode cX2_worth 46 = .ok (.lmul, 1) := by decide +kernel
theorem dX2_worth_47 : decode cX2_worth 47 = .ok (.lload 6, 2) := by decide +kernel
theorem dX2_worth_49 : decode cX2_worth 49 = .ok (.ladd, 1) := by decide +kernel
theorem dX2_worth_50 : decode cX2_worth 50 = .ok (.lconst 1, 1) := by decide +kernel
theorem dX2_worth_51 : decode cX2_worth 51 = .ok (.lsub, 1) := by decide +kernel
theorem dX2_worth_52 : decode cX2_worth 52 = .ok (.lload 6, 2) := by decide +kernel
theorem dX2_worth_54 : decode cX2_worth 54 = .ok (.ldiv, 1) := by decide +kernel
theorem dX2_worth_55 : decode cX2_worth 55 = .ok (.lstore 4, 2) := by decide +kernel
theorem dX2_worth_57 : decode cX2_worth 57 = .ok (.iinc 8 (-1), 3) := by decide +kernel
theorem dX2_worth_60 : decode cX2_worth 60 = .ok (.goto (-39), 3) := by decide +kernel
theorem dX2_worth_63 : decode cX2_worth 63 = .ok (.lload 4, 2) := by decide +kernel
theorem dX2_worth_65 : decode cX2_worth 65 = .ok (.l2i, 1) := by decide +kernel
theorem dX2_worth_66 : decode cX2_worth 66 = .ok (.ireturn, 1) := by decide +kernel
set_option maxRecDepth 20000 in
theorem ggX2_worthNow_X2_worth : GoodIn wsX2_worthNow wsX2_worth := goodIn_r _ [7, 8, 9, 10, 11, 12, 13, 14, 15, 16, 17, 18, 19, 20, 21, 22, 23] (by decide +kernel) (by decide +kernel)
set_option maxRecDepth 20000 in
theorem gX2_worthNow_X2_worth : GoodIn wsX2_worthNow (wsV RX2 56 RX2 yX2_worth wsX2_worth) := goodIn_app (goodIn_of _ (by decide +kernel)) ggX2_worthNow_X2_worth
theorem dX2_worthNow_0 : decode cX2_worthNow 0 = .ok (.aload_n 0, 1) := by decide +kernel
theorem dX2_worthNow_1 : decode cX2_worthNow 1 = .ok (.iload_n 1, 1) := by decide +kernel
theorem dX2_worthNow_2 : decode cX2_worthNow 2 = .ok (.aload_n 0, 1) := by decide +kernel
theorem dX2_worthNow_3 : decode cX2_worthNow 3 = .ok (.getfield 16, 3) := by decide +kernel
theorem dX2_worthNow_6 : decode cX2_worthNow 6 = .ok (.iload_n 1, 1) := by decide +kernel
theorem dX2_worthNow_7 : decode cX2_worthNow 7 = .ok (.iaload, 1) := by decide +kernel
theorem dX2_worthNow_8 : decode cX2_worthNow 8 = .ok (.aload_n 0, 1) := by decide +kernel
theorem dX2_worthNow_9 : decode cX2_worthNow 9 = .ok (.getfield 19, 3) := by decide +kernel
theorem dX2_worthNow_12 : decode cX2_worthNow 12 = .ok (.iload_n 1, 1) := by decide +kernel
theorem dX2_worthNow_13 : decode cX2_worthNow 13 = .ok (.iaload, 1) := by decide +kernel
theorem dX2_worthNow_14 : decode cX2_worthNow 14 = .ok (.invokevirtual 56, 3) := by decide +kernel
theorem dX2_worthNow_17 : decode cX2_worthNow 17 = .ok (.ireturn, 1) := by decide +kernel
set_option maxRecDepth 20000 in
theorem ggX2_add_X2_in : GoodIn wsX2_add wsX2_in := goodIn_r _ [12] (by decide +kernel) (by decide +kernel)
set_option maxRecDepth 20000 in
theorem gX2_add_X2_in : GoodIn wsX2_add (va_wsS RX2 50 yX2_in wsX2_in) := goodIn_app (goodIn_of _ (by decide +kernel)) ggX2_add_X2_in
set_option maxRecDepth 20000 in
theorem ggX2_add_X2_fails : GoodIn wsX2_add wsX2_fails := goodIn_r _ [16, 1, 27, 28, 29, 30, 31, 32, 33, 34, 35, 36, 37, 38, 39] (by decide +kernel) (by decide +kernel)
set_option maxRecDepth 20000 in
theorem gX2_add_X2_fails : GoodIn wsX2_add (wsV RX2 60 RX2 yX2_fails wsX2_fails) := goodIn_app (goodIn_of _ (by decide +kernel)) ggX2_add_X2_fails
set_option maxRecDepth 20000 in
theorem ggX2_add_X2_worthNow : GoodIn wsX2_add wsX2_worthNow := goodIn_r _ [20, 21, 4, 22, 23, 24, 11, 25, 26, 3, 6, 27, 28, 29, 30, 31, 32, 33, 34, 35, 36, 37, 38, 39] (by decide +kernel) (by decide +kernel)
set_option maxRecDepth 20000 in
theorem gX2_add_X2_worthNow : GoodIn wsX2_add (wsV RX2 64 RX2 yX2_worthNow wsX2_worthNow) := goodIn_app (goodIn_of _ (by decide +kernel)) ggX2_add_X2_worthNow
theorem dX2_add_0 : decode cX2_add 0 = .ok (.aload_n 0, 1) := by decide +kernel
theorem dX2_add_1 : decode cX2_add 1 = .ok (.iconst 0, 1) := by decide +kernel
theorem dX2_add_2 : decode cX2_add 2 = .ok (.putfield 43, 3) := by decide +kernel
theorem dX2_add_5 : decode cX2_add 5 = .ok (.iload_n 1, 1) := by decide +kernel
theorem dX2_add_6 : decode cX2_add 6 = .ok (.iconst 1, 1) := by decide +kernel
theorem dX2_add_7 : decode cX2_add 7 = .ok (.bipush 60, 2) := by decide +kernel
theorem dX2_add_9 : decode cX2_add 9 = .ok (.invokestatic 50, 3) := by decide +kernel
theorem dX2_add_12 : decode cX2_add 12 = .ok (.ifCond .eq 40, 3) := by decide +kernel
theorem dX2_add_15 : decode cX2_add 15 = .ok (.iload_n 2, 1) := by decide +kernel
theorem dX2_add_16 : decode cX2_add 16 = .ok (.iconst 1, 1) := by decide +kernel
theorem dX2_add_17 : decode cX2_add 17 = .ok (.sipush 10000, 3) := by decide +kernel
theorem dX2_add_20 : decode cX2_add 20 = .ok (.invokestatic 50, 3) := by decide +kernel
theorem dX2_add_23 : decode cX2_add 23 = .ok (.ifCond .eq 29, 3) := by decide +kernel
theorem dX2_add_26 : decode cX2_add 26 = .ok (.iload_n 3, 1) := by decide +kernel
theorem dX2_add_27 : decode cX2_add 27 = .ok (.iconst 0, 1) := by decide +kernel
theorem dX2_add_28 : decode cX2_add 28 = .ok (.bipush 12, 2) := by decide +kernel
theorem dX2_add_30 : decode cX2_add 30 = .ok (.invokestatic 50, 3) := by decide +kernel
theorem dX2_add_33 : decode cX2_add 33 = .ok (.ifCond .eq 19, 3) := by decide +kernel
theorem dX2_add_36 : decode cX2_add 36 = .ok (.iload 4, 2) := by decide +kernel
theorem dX2_add_38 : decode cX2_add 38 = .ok (.iconst 0, 1) := by decide +kernel
theorem dX2_add_39 : decode cX2_add 39 = .ok (.sipush 1000, 3) := by decide +kernel
theorem dX2_add_42 : decode cX2_add 42 = .ok (.invokestatic 50, 3) := by decide +kernel
theorem dX2_add_45 : decode cX2_add 45 = .ok (.ifCond .eq 7, 3) := by decide +kernel
theorem dX2_add_48 : decode cX2_add 48 = .ok (.iconst 1, 1) := by decide +kernel
theorem dX2_add_49 : decode cX2_add 49 = .ok (.goto 4, 3) := by decide +kernel
theorem dX2_add_52 : decode cX2_add 52 = .ok (.iconst 0, 1) := by decide +kernel
theorem dX2_add_53 : decode cX2_add 53 = .ok (.istore 8, 2) := by decide +kernel
theorem dX2_add_55 : decode cX2_add 55 = .ok (.iload 8, 2) := by decide +kernel
theorem dX2_add_57 : decode cX2_add 57 = .ok (.ifCond .eq 38, 3) := by decide +kernel
theorem dX2_add_60 : decode cX2_add 60 = .ok (.iload 5, 2) := by decide +kernel
theorem dX2_add_62 : decode cX2_add 62 = .ok (.iconst 0, 1) := by decide +kernel
theorem dX2_add_63 : decode cX2_add 63 = .ok (.sipush 20000, 3) := by decide +kernel
theorem dX2_add_66 : decode cX2_add 66 = .ok (.invokestatic 50, 3) := by decide +kernel
theorem dX2_add_69 : decode cX2_add 69 = .ok (.ifCond .eq 26, 3) := by decide +kernel
theorem dX2_add_72 : decode cX2_add 72 = .ok (.iload 6, 2) := by decide +kernel
theorem dX2_add_74 : decode cX2_add 74 = .ok (.iconst 1, 1) := by decide +kernel
theorem dX2_add_75 : decode cX2_add 75 = .ok (.bipush 120, 2) := by decide +kernel
theorem dX2_add_77 : decode cX2_add 77 = .ok (.invokestatic 50, 3) := by decide +kernel
theorem dX2_add_80 : decode cX2_add 80 = .ok (.ifCond .eq 15, 3) := by decide +kernel
theorem dX2_add_83 : decode cX2_add 83 = .ok (.iload 7, 2) := by decide +kernel
theorem dX2_add_85 : decode cX2_add 85 = .ok (.iconst 0, 1) := by decide +kernel
theorem dX2_add_86 : decode cX2_add 86 = .ok (.sipush 10000, 3) := by decide +kernel
theorem dX2_add_89 : decode cX2_add 89 = .ok (.invokestatic 50, 3) := by decide +kernel
theorem dX2_add_92 : decode cX2_add 92 = .ok (.ifCond .ne 9, 3) := by decide +kernel
theorem dX2_add_95 : decode cX2_add 95 = .ok (.aload_n 0, 1) := by decide +kernel
theorem dX2_add_96 : decode cX2_add 96 = .ok (.iconst 1, 1) := by decide +kernel
theorem dX2_add_97 : decode cX2_add 97 = .ok (.invokevirtual 60, 3) := by decide +kernel
theorem dX2_add_100 : decode cX2_add 100 = .ok (.ireturn, 1) := by decide +kernel
theorem dX2_add_101 : decode cX2_add 101 = .ok (.aload_n 0, 1) := by decide +kernel
theorem dX2_add_102 : decode cX2_add 102 = .ok (.getfield 47, 3) := by decide +kernel
theorem dX2_add_105 : decode cX2_add 105 = .ok (.bipush 6, 2) := by decide +kernel
theorem dX2_add_107 : decode cX2_add 107 = .ok (.if_icmp .ne 9, 3) := by decide +kernel
theorem dX2_add_110 : decode cX2_add 110 = .ok (.aload_n 0, 1) := by decide +kernel
theorem dX2_add_111 : decode cX2_add 111 = .ok (.iconst 2, 1) := by decide +kernel
theorem dX2_add_112 : decode cX2_add 112 = .ok (.invokevirtual 60, 3) := by decide +kernel
theorem dX2_add_115 : decode cX2_add 115 = .ok (.ireturn, 1) := by decide +kernel
theorem dX2_add_116 : decode cX2_add 116 = .ok (.aload_n 0, 1) := by decide +kernel
theorem dX2_add_117 : decode cX2_add 117 = .ok (.getfield 47, 3) := by decide +kernel
theorem dX2_add_120 : decode cX2_add 120 = .ok (.istore 9, 2) := by decide +kernel
theorem dX2_add_122 : decode cX2_add 122 = .ok (.aload_n 0, 1) := by decide +kernel
theorem dX2_add_123 : decode cX2_add 123 = .ok (.dup, 1) := by decide +kernel
theorem dX2_add_124 : decode cX2_add 124 = .ok (.getfield 47, 3) := by decide +kernel
theorem dX2_add_127 : decode cX2_add 127 = .ok (.iconst 1, 1) := by decide +kernel
theorem dX2_add_128 : decode cX2_add 128 = .ok (.iadd, 1) := by decide +kernel
theorem dX2_add_129 : decode cX2_add 129 = .ok (.putfield 47, 3) := by decide +kernel
theorem dX2_add_132 : decode cX2_add 132 = .ok (.aload_n 0, 1) := by decide +kernel
theorem dX2_add_133 : decode cX2_add 133 = .ok (.getfield 13, 3) := by decide +kernel
theorem dX2_add_136 : decode cX2_add 136 = .ok (.iload 9, 2) := by decide +kernel
theorem dX2_add_138 : decode cX2_add 138 = .ok (.iload_n 1, 1) := by decide +kernel
theorem dX2_add_139 : decode cX2_add 139 = .ok (.iastore, 1) := by decide +kernel
theorem dX2_add_140 : decode cX2_add 140 = .ok (.aload_n 0, 1) := by decide +kernel
theorem dX2_add_141 : decode cX2_add 141 = .ok (.getfield 19, 3) := by decide +kernel
theorem dX2_add_144 : decode cX2_add 144 = .ok (.iload 9, 2) := by decide +kernel
theorem dX2_add_146 : decode cX2_add 146 = .ok (.iload 5, 2) := by decide +kernel
theorem dX2_add_148 : decode cX2_add 148 = .ok (.iastore, 1) := by decide +kernel
theorem dX2_add_149 : decode cX2_add 149 = .ok (.aload_n 0, 1) := by decide +kernel
theorem dX2_add_150 : decode cX2_add 150 = .ok (.getfield 22, 3) := by decide +kernel
theorem dX2_add_153 : decode cX2_add 153 = .ok (.iload 9, 2) := by decide +kernel
theorem dX2_add_155 : decode cX2_add 155 = .ok (.iload 6, 2) := by decide +kernel
theorem dX2_add_157 : decode cX2_add 157 = .ok (.iastore, 1) := by decide +kernel
theorem dX2_add_158 : decode cX2_add 158 = .ok (.iconst 0, 1) := by decide +kernel
theorem dX2_add_159 : decode cX2_add 159 = .ok (.istore 10, 2) := by decide +kernel
theorem dX2_add_161 : decode cX2_add 161 = .ok (.iload 10, 2) := by decide +kernel
theorem dX2_add_163 : decode cX2_add 163 = .ok (.iload_n 1, 1) := by decide +kernel
theorem dX2_add_164 : decode cX2_add 164 = .ok (.if_icmp .ge 42, 3) := by decide +kernel
theorem dX2_add_167 : decode cX2_add 167 = .ok (.aload_n 0, 1) := by decide +kernel
theorem dX2_add_168 : decode cX2_add 168 = .ok (.getfield 7, 3) := by decide +kernel
theorem dX2_add_171 : decode cX2_add 171 = .ok (.bipush 120, 2) := by decide +kernel
theorem dX2_add_173 : decode cX2_add 173 = .ok (.iload 9, 2) := by decide +kernel
theorem dX2_add_175 : decode cX2_add 175 = .ok (.imul, 1) := by decide +kernel
theorem dX2_add_176 : decode cX2_add 176 = .ok (.iload 10, 2) := by decide +kernel
theorem dX2_add_178 : decode cX2_add 178 = .ok (.iadd, 1) := by decide +kernel
theorem dX2_add_179 : decode cX2_add 179 = .ok (.iload 10, 2) := by decide +kernel
theorem dX2_add_181 : decode cX2_add 181 = .ok (.iload_n 3, 1) := by decide +kernel
theorem dX2_add_182 : decode cX2_add 182 = .ok (.if_icmp .ge 7, 3) := by decide +kernel
theorem dX2_add_185 : decode cX2_add 185 = .ok (.iconst 0, 1) := by decide +kernel
theorem dX2_add_186 : decode cX2_add 186 = .ok (.goto 13, 3) := by decide +kernel
theorem dX2_add_189 : decode cX2_add 189 = .ok (.iload_n 2, 1) := by decide +kernel
theorem dX2_add_190 : decode cX2_add 190 = .ok (.iload 4, 2) := by decide +kernel
theorem dX2_add_192 : decode cX2_add 192 = .ok (.iload 10, 2) := by decide +kernel
theorem dX2_add_194 : decode cX2_add 194 = .ok (.bipush 12, 2) := by decide +kernel
theorem dX2_add_196 : decode cX2_add 196 = .ok (.idiv, 1) := by decide +kernel
theorem dX2_add_197 : decode cX2_add 197 = .ok (.imul, 1) := by decide +kernel
theorem dX2_add_198 : decode cX2_add 198 = .ok (.iadd, 1) := by decide +kernel
theorem dX2_add_199 : decode cX2_add 199 = .ok (.iastore, 1) := by decide +kernel
theorem dX2_add_200 : decode cX2_add 200 = .ok (.iinc 10 1, 3) := by decide +kernel
theorem dX2_add_203 : decode cX2_add 203 = .ok (.goto (-42), 3) := by decide +kernel
theorem dX2_add_206 : decode cX2_add 206 = .ok (.aload_n 0, 1) := by decide +kernel
theorem dX2_add_207 : decode cX2_add 207 = .ok (.getfield 25, 3) := by decide +kernel
theorem dX2_add_210 : decode cX2_add 210 = .ok (.iload 9, 2) := by decide +kernel
theorem dX2_add_212 : decode cX2_add 212 = .ok (.aload_n 0, 1) := by decide +kernel
theorem dX2_add_213 : decode cX2_add 213 = .ok (.iload 9, 2) := by decide +kernel
theorem dX2_add_215 : decode cX2_add 215 = .ok (.invokevirtual 64, 3) := by decide +kernel
theorem dX2_add_218 : decode cX2_add 218 = .ok (.iastore, 1) := by decide +kernel
theorem dX2_add_219 : decode cX2_add 219 = .ok (.aload_n 0, 1) := by decide +kernel
theorem dX2_add_220 : decode cX2_add 220 = .ok (.getfield 28, 3) := by decide +kernel
theorem dX2_add_223 : decode cX2_add 223 = .ok (.iload 9, 2) := by decide +kernel
theorem dX2_add_225 : decode cX2_add 225 = .ok (.aload_n 0, 1) := by decide +kernel
theorem dX2_add_226 : decode cX2_add 226 = .ok (.getfield 25, 3) := by decide +kernel
theorem dX2_add_229 : decode cX2_add 229 = .ok (.iload 9, 2) := by decide +kernel
theorem dX2_add_231 : decode cX2_add 231 = .ok (.iaload, 1) := by decide +kernel
theorem dX2_add_232 : decode cX2_add 232 = .ok (.iload 7, 2) := by decide +kernel
theorem dX2_add_234 : decode cX2_add 234 = .ok (.iadd, 1) := by decide +kernel
theorem dX2_add_235 : decode cX2_add 235 = .ok (.iastore, 1) := by decide +kernel
theorem dX2_add_236 : decode cX2_add 236 = .ok (.iload 9, 2) := by decide +kernel
theorem dX2_add_238 : decode cX2_add 238 = .ok (.ireturn, 1) := by decide +kernel
set_option maxRecDepth 20000 in
theorem ggX2_month_X2_left : GoodIn wsX2_month wsX2_left := goodIn_r _ [14, 15, 2, 21, 22, 23, 24, 25, 26, 27, 28, 29, 30, 31, 32, 33] (by decide +kernel) (by decide +kernel)
set_option maxRecDepth 20000 in
theorem gX2_month_X2_left : GoodIn wsX2_month (wsV RX2 67 RX2 yX2_left wsX2_left) := goodIn_app (goodIn_of _ (by decide +kernel)) ggX2_month_X2_left
set_option maxRecDepth 20000 in
theorem ggX2_month_X2_worth : GoodIn wsX2_month wsX2_worth := goodIn_r _ [19, 20, 15, 1, 21, 22, 23, 24, 25, 26, 27, 28, 29, 30, 31, 32, 33] (by decide +kernel) (by decide +kernel)
set_option maxRecDepth 20000 in
theorem gX2_month_X2_worth : GoodIn wsX2_month (wsV RX2 56 RX2 yX2_worth wsX2_worth) := goodIn_app (goodIn_of _ (by decide +kernel)) ggX2_month_X2_worth
theorem dX2_month_0 : decode cX2_month 0 = .ok (.aload_n 0, 1) := by decide +kernel
theorem dX2_month_1 : decode cX2_month 1 = .ok (.getfield 7, 3) := by decide +kernel
theorem dX2_month_4 : decode cX2_month 4 = .ok (.bipush 120, 2) := by decide +kernel
theorem dX2_month_6 : decode cX2_month 6 = .ok (.iload_n 1, 1) := by decide +kernel
theorem dX2_month_7 : decode cX2_month 7 = .ok (.imul, 1) := by decide +kernel
theorem dX2_month_8 : decode cX2_month 8 = .ok (.aload_n 0, 1) := by decide +kernel
theorem dX2_month_9 : decode cX2_month 9 = .ok (.getfield 16, 3) := by decide +kernel
theorem dX2_month_12 : decode cX2_month 12 = .ok (.iload_n 1, 1) := by decide +kernel
theorem dX2_month_13 : decode cX2_month 13 = .ok (.iaload, 1) := by decide +kernel
theorem dX2_month_14 : decode cX2_month 14 = .ok (.iadd, 1) := by decide +kernel
theorem dX2_month_15 : decode cX2_month 15 = .ok (.iaload, 1) := by decide +kernel
theorem dX2_month_16 : decode cX2_month 16 = .ok (.istore_n 2, 1) := by decide +kernel
theorem dX2_month_17 : decode cX2_month 17 = .ok (.aload_n 0, 1) := by decide +kernel
theorem dX2_month_18 : decode cX2_month 18 = .ok (.iload_n 1, 1) := by decide +kernel
theorem dX2_month_19 : decode cX2_month 19 = .ok (.invokevirtual 67, 3) := by decide +kernel
theorem dX2_month_22 : decode cX2_month 22 = .ok (.istore_n 3, 1) := by decide +kernel
theorem dX2_month_23 : decode cX2_month 23 = .ok (.aload_n 0, 1) := by decide +kernel
theorem dX2_month_24 : decode cX2_month 24 = .ok (.getfield 22, 3) := by decide +kernel
theorem dX2_month_27 : decode cX2_month 27 = .ok (.iload_n 1, 1) := by decide +kernel
theorem dX2_month_28 : decode cX2_month 28 = .ok (.iaload, 1) := by decide +kernel
theorem dX2_month_29 : decode cX2_month 29 = .ok (.aload_n 0, 1) := by decide +kernel
theorem dX2_month_30 : decode cX2_month 30 = .ok (.getfield 16, 3) := by decide +kernel
theorem dX2_month_33 : decode cX2_month 33 = .ok (.iload_n 1, 1) := by decide +kernel
theorem dX2_month_34 : decode cX2_month 34 = .ok (.iaload, 1) := by decide +kernel
theorem dX2_month_35 : decode cX2_month 35 = .ok (.isub, 1) := by decide +kernel
theorem dX2_month_36 : decode cX2_month 36 = .ok (.istore 4, 2) := by decide +kernel
theorem dX2_month_38 : decode cX2_month 38 = .ok (.iload_n 3, 1) := by decide +kernel
theorem dX2_month_39 : decode cX2_month 39 = .ok (.iload 4, 2) := by decide +kernel
theorem dX2_month_41 : decode cX2_month 41 = .ok (.if_icmp .ge 7, 3) := by decide +kernel
theorem dX2_month_44 : decode cX2_month 44 = .ok (.iload_n 3, 1) := by decide +kernel
theorem dX2_month_45 : decode cX2_month 45 = .ok (.goto 5, 3) := by decide +kernel
theorem dX2_month_48 : decode cX2_month 48 = .ok (.iload 4, 2) := by decide +kernel
theorem dX2_month_50 : decode cX2_month 50 = .ok (.istore 5, 2) := by decide +kernel
theorem dX2_month_52 : decode cX2_month 52 = .ok (.iload 5, 2) := by decide +kernel
theorem dX2_month_54 : decode cX2_month 54 = .ok (.iconst 1, 1) := by decide +kernel
theorem dX2_month_55 : decode cX2_month 55 = .ok (.if_icmp .ge 12, 3) := by decide +kernel
theorem dX2_month_58 : decode cX2_month 58 = .ok (.aload_n 0, 1) := by decide +kernel
theorem dX2_month_59 : decode cX2_month 59 = .ok (.getfield 28, 3) := by decide +kernel
theorem dX2_month_62 : decode cX2_month 62 = .ok (.iload_n 1, 1) := by decide +kernel
theorem dX2_month_63 : decode cX2_month 63 = .ok (.iaload, 1) := by decide +kernel
theorem dX2_month_64 : decode cX2_month 64 = .ok (.goto 12, 3) := by decide +kernel
theorem dX2_month_67 : decode cX2_month 67 = .ok (.aload_n 0, 1) := by decide +kernel
theorem dX2_month_68 : decode cX2_month 68 = .ok (.getfield 28, 3) := by decide +kernel
theorem dX2_month_71 : decode cX2_month 71 = .ok (.iload_n 1, 1) := by decide +kernel
theorem dX2_month_72 : decode cX2_month 72 = .ok (.iaload, 1) := by decide +kernel
theorem dX2_month_73 : decode cX2_month 73 = .ok (.iload 5, 2) := by decide +kernel
theorem dX2_month_75 : decode cX2_month 75 = .ok (.idiv, 1) := by decide +kernel
theorem dX2_month_76 : decode cX2_month 76 = .ok (.istore 6, 2) := by decide +kernel
theorem dX2_month_78 : decode cX2_month 78 = .ok (.aload_n 0, 1) := by decide +kernel
theorem dX2_month_79 : decode cX2_month 79 = .ok (.iload_n 1, 1) := by decide +kernel
theorem dX2_month_80 : decode cX2_month 80 = .ok (.aload_n 0, 1) := by decide +kernel
theorem dX2_month_81 : decode cX2_month 81 = .ok (.getfield 16, 3) := by decide +kernel
theorem dX2_month_84 : decode cX2_month 84 = .ok (.iload_n 1, 1) := by decide +kernel
theorem dX2_month_85 : decode cX2_month 85 = .ok (.iaload, 1) := by decide +kernel
theorem dX2_month_86 : decode cX2_month 86 = .ok (.iconst 1, 1) := by decide +kernel
theorem dX2_month_87 : decode cX2_month 87 = .ok (.iadd, 1) := by decide +kernel
theorem dX2_month_88 : decode cX2_month 88 = .ok (.aload_n 0, 1) := by decide +kernel
theorem dX2_month_89 : decode cX2_month 89 = .ok (.getfield 19, 3) := by decide +kernel
theorem dX2_month_92 : decode cX2_month 92 = .ok (.iload_n 1, 1) := by decide +kernel
theorem dX2_month_93 : decode cX2_month 93 = .ok (.iaload, 1) := by decide +kernel
theorem dX2_month_94 : decode cX2_month 94 = .ok (.invokevirtual 56, 3) := by decide +kernel
theorem dX2_month_97 : decode cX2_month 97 = .ok (.istore 7, 2) := by decide +kernel
theorem dX2_month_99 : decode cX2_month 99 = .ok (.aload_n 0, 1) := by decide +kernel
theorem dX2_month_100 : decode cX2_month 100 = .ok (.getfield 31, 3) := by decide +kernel
theorem dX2_month_103 : decode cX2_month 103 = .ok (.iload_n 1, 1) := by decide +kernel
theorem dX2_month_104 : decode cX2_month 104 = .ok (.dup2, 1) := by decide +kernel
theorem dX2_month_105 : decode cX2_month 105 = .ok (.iaload, 1) := by decide +kernel
theorem dX2_month_106 : decode cX2_month 106 = .ok (.iload 7, 2) := by decide +kernel
theorem dX2_month_108 : decode cX2_month 108 = .ok (.iload_n 2, 1) := by decide +kernel
theorem dX2_month_109 : decode cX2_month 109 = .ok (.iadd, 1) := by decide +kernel
theorem dX2_month_110 : decode cX2_month 110 = .ok (.aload_n 0, 1) := by decide +kernel
theorem dX2_month_111 : decode cX2_month 111 = .ok (.getfield 25, 3) := by decide +kernel
theorem dX2_month_114 : decode cX2_month 114 = .ok (.iload_n 1, 1) := by decide +kernel
theorem dX2_month_115 : decode cX2_month 115 = .ok (.iaload, 1) := by decide +kernel
theorem dX2_month_116 : decode cX2_month 116 = .ok (.isub, 1) := by decide +kernel
theorem dX2_month_117 : decode cX2_month 117 = .ok (.iadd, 1) := by decide +kernel
theorem dX2_month_118 : decode cX2_month 118 = .ok (.iastore, 1) := by decide +kernel
theorem dX2_month_119 : decode cX2_month 119 = .ok (.aload_n 0, 1) := by decide +kernel
theorem dX2_month_120 : decode cX2_month 120 = .ok (.getfield 37, 3) := by decide +kernel
theorem dX2_month_123 : decode cX2_month 123 = .ok (.iload_n 1, 1) := by decide +kernel
theorem dX2_month_124 : decode cX2_month 124 = .ok (.dup2, 1) := by decide +kernel
theorem dX2_month_125 : decode cX2_month 125 = .ok (.iaload, 1) := by decide +kernel
theorem dX2_month_126 : decode cX2_month 126 = .ok (.iload_n 2, 1) := by decide +kernel
theorem dX2_month_127 : decode cX2_month 127 = .ok (.iadd, 1) := by decide +kernel
theorem dX2_month_128 : decode cX2_month 128 = .ok (.iastore, 1) := by decide +kernel
theorem dX2_month_129 : decode cX2_month 129 = .ok (.aload_n 0, 1) := by decide +kernel
theorem dX2_month_130 : decode cX2_month 130 = .ok (.getfield 28, 3) := by decide +kernel
theorem dX2_month_133 : decode cX2_month 133 = .ok (.iload_n 1, 1) := by decide +kernel
theorem dX2_month_134 : decode cX2_month 134 = .ok (.dup2, 1) := by decide +kernel
theorem dX2_month_135 : decode cX2_month 135 = .ok (.iaload, 1) := by decide +kernel
theorem dX2_month_136 : decode cX2_month 136 = .ok (.iload 6, 2) := by decide +kernel
theorem dX2_month_138 : decode cX2_month 138 = .ok (.isub, 1) := by decide +kernel
theorem dX2_month_139 : decode cX2_month 139 = .ok (.iastore, 1) := by decide +kernel
theorem dX2_month_140 : decode cX2_month 140 = .ok (.aload_n 0, 1) := by decide +kernel
theorem dX2_month_141 : decode cX2_month 141 = .ok (.getfield 34, 3) := by decide +kernel
theorem dX2_month_144 : decode cX2_month 144 = .ok (.iload_n 1, 1) := by decide +kernel
theorem dX2_month_145 : decode cX2_month 145 = .ok (.dup2, 1) := by decide +kernel
theorem dX2_month_146 : decode cX2_month 146 = .ok (.iaload, 1) := by decide +kernel
theorem dX2_month_147 : decode cX2_month 147 = .ok (.iload 6, 2) := by decide +kernel
theorem dX2_month_149 : decode cX2_month 149 = .ok (.iadd, 1) := by decide +kernel
theorem dX2_month_150 : decode cX2_month 150 = .ok (.iastore, 1) := by decide +kernel
theorem dX2_month_151 : decode cX2_month 151 = .ok (.aload_n 0, 1) := by decide +kernel
theorem dX2_month_152 : decode cX2_month 152 = .ok (.getfield 25, 3) := by decide +kernel
theorem dX2_month_155 : decode cX2_month 155 = .ok (.iload_n 1, 1) := by decide +kernel
theorem dX2_month_156 : decode cX2_month 156 = .ok (.iload 7, 2) := by decide +kernel
theorem dX2_month_158 : decode cX2_month 158 = .ok (.iastore, 1) := by decide +kernel
theorem dX2_month_159 : decode cX2_month 159 = .ok (.aload_n 0, 1) := by decide +kernel
theorem dX2_month_160 : decode cX2_month 160 = .ok (.getfield 16, 3) := by decide +kernel
theorem dX2_month_163 : decode cX2_month 163 = .ok (.iload_n 1, 1) := by decide +kernel
theorem dX2_month_164 : decode cX2_month 164 = .ok (.dup2, 1) := by decide +kernel
theorem dX2_month_165 : decode cX2_month 165 = .ok (.iaload, 1) := by decide +kernel
theorem dX2_month_166 : decode cX2_month 166 = .ok (.iconst 1, 1) := by decide +kernel
theorem dX2_month_167 : decode cX2_month 167 = .ok (.iadd, 1) := by decide +kernel
theorem dX2_month_168 : decode cX2_month 168 = .ok (.iastore, 1) := by decide +kernel
theorem dX2_month_169 : decode cX2_month 169 = .ok (.return_, 1) := by decide +kernel
set_option maxRecDepth 20000 in
theorem ggX2_pass_X2_in : GoodIn wsX2_pass wsX2_in := goodIn_r _ [6] (by decide +kernel) (by decide +kernel)
set_option maxRecDepth 20000 in
theorem gX2_pass_X2_in : GoodIn wsX2_pass (va_wsS RX2 50 yX2_in wsX2_in) := goodIn_app (goodIn_of _ (by decide +kernel)) ggX2_pass_X2_in
set_option maxRecDepth 20000 in
theorem ggX2_pass_X2_fails : GoodIn wsX2_pass wsX2_fails := goodIn_r _ [10, 1, 34, 35, 36, 37, 38, 39, 40, 41, 42, 43, 44, 45, 46] (by decide +kernel) (by decide +kernel)
set_option maxRecDepth 20000 in
theorem gX2_pass_X2_fails : GoodIn wsX2_pass (wsV RX2 60 RX2 yX2_fails wsX2_fails) := goodIn_app (goodIn_of _ (by decide +kernel)) ggX2_pass_X2_fails
set_option maxRecDepth 20000 in
theorem ggX2_pass_X2_left : GoodIn wsX2_pass wsX2_left := goodIn_r _ [14, 15, 16, 34, 35, 36, 37, 38, 39, 40, 41, 42, 43, 44, 45, 46] (by decide +kernel) (by decide +kernel)
set_option maxRecDepth 20000 in
theorem gX2_pass_X2_left : GoodIn wsX2_pass (wsV RX2 67 RX2 yX2_left wsX2_left) := goodIn_app (goodIn_of _ (by decide +kernel)) ggX2_pass_X2_left
set_option maxRecDepth 20000 in
theorem ggX2_pass_X2_month : GoodIn wsX2_pass wsX2_month := goodIn_r _ [20, 21, 16, 22, 23, 24, 25, 26, 27, 28, 11, 12, 13, 5, 14, 15, 29, 30, 31, 32, 33, 34, 35, 36, 37, 38, 39, 40, 41, 42, 43, 44, 45, 46] (by decide +kernel) (by decide +kernel)
set_option maxRecDepth 20000 in
theorem gX2_pass_X2_month : GoodIn wsX2_pass (wsV RX2 70 RX2 yX2_month wsX2_month) := goodIn_app (goodIn_of _ (by decide +kernel)) ggX2_pass_X2_month
theorem dX2_pass_0 : decode cX2_pass 0 = .ok (.aload_n 0, 1) := by decide +kernel
theorem dX2_pass_1 : decode cX2_pass 1 = .ok (.iconst 0, 1) := by decide +kernel
theorem dX2_pass_2 : decode cX2_pass 2 = .ok (.putfield 43, 3) := by decide +kernel
theorem dX2_pass_5 : decode cX2_pass 5 = .ok (.iload_n 1, 1) := by decide +kernel
theorem dX2_pass_6 : decode cX2_pass 6 = .ok (.iconst 1, 1) := by decide +kernel
theorem dX2_pass_7 : decode cX2_pass 7 = .ok (.bipush 24, 2) := by decide +kernel
theorem dX2_pass_9 : decode cX2_pass 9 = .ok (.invokestatic 50, 3) := by decide +kernel
theorem dX2_pass_12 : decode cX2_pass 12 = .ok (.ifCond .ne 9, 3) := by decide +kernel
theorem dX2_pass_15 : decode cX2_pass 15 = .ok (.aload_n 0, 1) := by decide +kernel
theorem dX2_pass_16 : decode cX2_pass 16 = .ok (.iconst 1, 1) := by decide +kernel
theorem dX2_pass_17 : decode cX2_pass 17 = .ok (.invokevirtual 60, 3) := by decide +kernel
theorem dX2_pass_20 : decode cX2_pass 20 = .ok (.ireturn, 1) := by decide +kernel
theorem dX2_pass_21 : decode cX2_pass 21 = .ok (.iconst 0, 1) := by decide +kernel
theorem dX2_pass_22 : decode cX2_pass 22 = .ok (.istore_n 2, 1) := by decide +kernel
theorem dX2_pass_23 : decode cX2_pass 23 = .ok (.iconst 0, 1) := by decide +kernel
theorem dX2_pass_24 : decode cX2_pass 24 = .ok (.istore_n 3, 1) := by decide +kernel
theorem dX2_pass_25 : decode cX2_pass 25 = .ok (.iload_n 3, 1) := by decide +kernel
theorem dX2_pass_26 : decode cX2_pass 26 = .ok (.aload_n 0, 1) := by decide +kernel
theorem dX2_pass_27 : decode cX2_pass 27 = .ok (.getfield 47, 3) := by decide +kernel
theorem dX2_pass_30 : decode cX2_pass 30 = .ok (.if_icmp .ge 65, 3) := by decide +kernel
theorem dX2_pass_33 : decode cX2_pass 33 = .ok (.aload_n 0, 1) := by decide +kernel
theorem dX2_pass_34 : decode cX2_pass 34 = .ok (.iload_n 3, 1) := by decide +kernel
theorem dX2_pass_35 : decode cX2_pass 35 = .ok (.invokevirtual 67, 3) := by decide +kernel
theorem dX2_pass_38 : decode cX2_pass 38 = .ok (.istore 4, 2) := by decide +kernel
theorem dX2_pass_40 : decode cX2_pass 40 = .ok (.iconst 0, 1) := by decide +kernel
theorem dX2_pass_41 : decode cX2_pass 41 = .ok (.istore 5, 2) := by decide +kernel
theorem dX2_pass_43 : decode cX2_pass 43 = .ok (.iload 5, 2) := by decide +kernel
theorem dX2_pass_45 : decode cX2_pass 45 = .ok (.iload_n 1, 1) := by decide +kernel
theorem dX2_pass_46 : decode cX2_pass 46 = .ok (.if_icmp .ge 22, 3) := by decide +kernel
theorem dX2_pass_49 : decode cX2_pass 49 = .ok (.aload_n 0, 1) := by decide +kernel
theorem dX2_pass_50 : decode cX2_pass 50 = .ok (.iload_n 3, 1) := by decide +kernel
theorem dX2_pass_51 : decode cX2_pass 51 = .ok (.invokevirtual 67, 3) := by decide +kernel
theorem dX2_pass_54 : decode cX2_pass 54 = .ok (.ifCond .le 14, 3) := by decide +kernel
theorem dX2_pass_57 : decode cX2_pass 57 = .ok (.aload_n 0, 1) := by decide +kernel
theorem dX2_pass_58 : decode cX2_pass 58 = .ok (.iload_n 3, 1) := by decide +kernel
theorem dX2_pass_59 : decode cX2_pass 59 = .ok (.invokevirtual 70, 3) := by decide +kernel
theorem dX2_pass_62 : decode cX2_pass 62 = .ok (.iinc 5 1, 3) := by decide +kernel
theorem dX2_pass_65 : decode cX2_pass 65 = .ok (.goto (-22), 3) := by decide +kernel
theorem dX2_pass_68 : decode cX2_pass 68 = .ok (.iload_n 2, 1) := by decide +kernel
theorem dX2_pass_69 : decode cX2_pass 69 = .ok (.iload 4, 2) := by decide +kernel
theorem dX2_pass_71 : decode cX2_pass 71 = .ok (.ifCond .le 15, 3) := by decide +kernel
theorem dX2_pass_74 : decode cX2_pass 74 = .ok (.aload_n 0, 1) := by decide +kernel
theorem dX2_pass_75 : decode cX2_pass 75 = .ok (.iload_n 3, 1) := by decide +kernel
theorem dX2_pass_76 : decode cX2_pass 76 = .ok (.invokevirtual 67, 3) := by decide +kernel
theorem dX2_pass_79 : decode cX2_pass 79 = .ok (.ifCond .ne 7, 3) := by decide +kernel
theorem dX2_pass_82 : decode cX2_pass 82 = .ok (.iconst 1, 1) := by decide +kernel
theorem dX2_pass_83 : decode cX2_pass 83 = .ok (.goto 4, 3) := by decide +kernel
theorem dX2_pass_86 : decode cX2_pass 86 = .ok (.iconst 0, 1) := by decide +kernel
theorem dX2_pass_87 : decode cX2_pass 87 = .ok (.iadd, 1) := by decide +kernel
theorem dX2_pass_88 : decode cX2_pass 88 = .ok (.istore_n 2, 1) := by decide +kernel
theorem dX2_pass_89 : decode cX2_pass 89 = .ok (.iinc 3 1, 3) := by decide +kernel
theorem dX2_pass_92 : decode cX2_pass 92 = .ok (.goto (-67), 3) := by decide +kernel
theorem dX2_pass_95 : decode cX2_pass 95 = .ok (.iload_n 2, 1) := by decide +kernel
theorem dX2_pass_96 : decode cX2_pass 96 = .ok (.ireturn, 1) := by decide +kernel
set_option maxRecDepth 20000 in
theorem ggX2_laidAgain_X2_worthNow : GoodIn wsX2_laidAgain wsX2_worthNow := goodIn_r _ [8, 9, 10, 11, 12, 13, 7, 14, 15, 16, 17, 18, 19, 20, 21, 22, 23, 24, 25, 26, 27, 28, 29, 30] (by decide +kernel) (by decide +kernel)
set_option maxRecDepth 20000 in
theorem gX2_laidAgain_X2_worthNow : GoodIn wsX2_laidAgain (wsV RX2 64 RX2 yX2_worthNow wsX2_worthNow) := goodIn_app (goodIn_of _ (by decide +kernel)) ggX2_laidAgain_X2_worthNow
theorem dX2_laidAgain_0 : decode cX2_laidAgain 0 = .ok (.aload_n 0, 1) := by decide +kernel
theorem dX2_laidAgain_1 : decode cX2_laidAgain 1 = .ok (.iload_n 1, 1) := by decide +kernel
theorem dX2_laidAgain_2 : decode cX2_laidAgain 2 = .ok (.invokevirtual 64, 3) := by decide +kernel
theorem dX2_laidAgain_5 : decode cX2_laidAgain 5 = .ok (.istore_n 2, 1) := by decide +kernel
theorem dX2_laidAgain_6 : decode cX2_laidAgain 6 = .ok (.aload_n 0, 1) := by decide +kernel
theorem dX2_laidAgain_7 : decode cX2_laidAgain 7 = .ok (.getfield 28, 3) := by decide +kernel
theorem dX2_laidAgain_10 : decode cX2_laidAgain 10 = .ok (.iload_n 1, 1) := by decide +kernel
theorem dX2_laidAgain_11 : decode cX2_laidAgain 11 = .ok (.dup2, 1) := by decide +kernel
theorem dX2_laidAgain_12 : decode cX2_laidAgain 12 = .ok (.iaload, 1) := by decide +kernel
theorem dX2_laidAgain_13 : decode cX2_laidAgain 13 = .ok (.iload_n 2, 1) := by decide +kernel
theorem dX2_laidAgain_14 : decode cX2_laidAgain 14 = .ok (.aload_n 0, 1) := by decide +kernel
theorem dX2_laidAgain_15 : decode cX2_laidAgain 15 = .ok (.getfield 25, 3) := by decide +kernel
theorem dX2_laidAgain_18 : decode cX2_laidAgain 18 = .ok (.iload_n 1, 1) := by decide +kernel
theorem dX2_laidAgain_19 : decode cX2_laidAgain 19 = .ok (.iaload, 1) := by decide +kernel
theorem dX2_laidAgain_20 : decode cX2_laidAgain 20 = .ok (.isub, 1) := by decide +kernel
theorem dX2_laidAgain_21 : decode cX2_laidAgain 21 = .ok (.iadd, 1) := by decide +kernel
theorem dX2_laidAgain_22 : decode cX2_laidAgain 22 = .ok (.iastore, 1) := by decide +kernel
theorem dX2_laidAgain_23 : decode cX2_laidAgain 23 = .ok (.aload_n 0, 1) := by decide +kernel
theorem dX2_laidAgain_24 : decode cX2_laidAgain 24 = .ok (.getfield 25, 3) := by decide +kernel
theorem dX2_laidAgain_27 : decode cX2_laidAgain 27 = .ok (.iload_n 1, 1) := by decide +kernel
theorem dX2_laidAgain_28 : decode cX2_laidAgain 28 = .ok (.iload_n 2, 1) := by decide +kernel
theorem dX2_laidAgain_29 : decode cX2_laidAgain 29 = .ok (.iastore, 1) := by decide +kernel
theorem dX2_laidAgain_30 : decode cX2_laidAgain 30 = .ok (.aload_n 0, 1) := by decide +kernel
theorem dX2_laidAgain_31 : decode cX2_laidAgain 31 = .ok (.getfield 28, 3) := by decide +kernel
theorem dX2_laidAgain_34 : decode cX2_laidAgain 34 = .ok (.iload_n 1, 1) := by decide +kernel
theorem dX2_laidAgain_35 : decode cX2_laidAgain 35 = .ok (.iaload, 1) := by decide +kernel
theorem dX2_laidAgain_36 : decode cX2_laidAgain 36 = .ok (.ifCond .ge 25, 3) := by decide +kernel
theorem dX2_laidAgain_39 : decode cX2_laidAgain 39 = .ok (.aload_n 0, 1) := by decide +kernel
theorem dX2_laidAgain_40 : decode cX2_laidAgain 40 = .ok (.getfield 40, 3) := by decide +kernel
theorem dX2_laidAgain_43 : decode cX2_laidAgain 43 = .ok (.iload_n 1, 1) := by decide +kernel
theorem dX2_laidAgain_44 : decode cX2_laidAgain 44 = .ok (.dup2, 1) := by decide +kernel
theorem dX2_laidAgain_45 : decode cX2_laidAgain 45 = .ok (.iaload, 1) := by decide +kernel
theorem dX2_laidAgain_46 : decode cX2_laidAgain 46 = .ok (.aload_n 0, 1) := by decide +kernel
theorem dX2_laidAgain_47 : decode cX2_laidAgain 47 = .ok (.getfield 28, 3) := by decide +kernel
theorem dX2_laidAgain_50 : decode cX2_laidAgain 50 = .ok (.iload_n 1, 1) := by decide +kernel
theorem dX2_laidAgain_51 : decode cX2_laidAgain 51 = .ok (.iaload, 1) := by decide +kernel
theorem dX2_laidAgain_52 : decode cX2_laidAgain 52 = .ok (.isub, 1) := by decide +kernel
theorem dX2_laidAgain_53 : decode cX2_laidAgain 53 = .ok (.iastore, 1) := by decide +kernel
theorem dX2_laidAgain_54 : decode cX2_laidAgain 54 = .ok (.aload_n 0, 1) := by decide +kernel
theorem dX2_laidAgain_55 : decode cX2_laidAgain 55 = .ok (.getfield 28, 3) := by decide +kernel
theorem dX2_laidAgain_58 : decode cX2_laidAgain 58 = .ok (.iload_n 1, 1) := by decide +kernel
theorem dX2_laidAgain_59 : decode cX2_laidAgain 59 = .ok (.iconst 0, 1) := by decide +kernel
theorem dX2_laidAgain_60 : decode cX2_laidAgain 60 = .ok (.iastore, 1) := by decide +kernel
theorem dX2_laidAgain_61 : decode cX2_laidAgain 61 = .ok (.iload_n 2, 1) := by decide +kernel
theorem dX2_laidAgain_62 : decode cX2_laidAgain 62 = .ok (.ireturn, 1) := by decide +kernel
set_option maxRecDepth 20000 in
theorem ggX2_review_X2_isNoLease : GoodIn wsX2_review wsX2_isNoLease := goodIn_r _ [11, 12, 13, 14, 10, 15, 40, 41, 42, 43, 44, 45, 46, 47, 48, 49, 50, 51, 52] (by decide +kernel) (by decide +kernel)
set_option maxRecDepth 20000 in
theorem gX2_review_X2_isNoLease : GoodIn wsX2_review (wsV RX2 74 RX2 yX2_isNoLease wsX2_isNoLease) := goodIn_app (goodIn_of _ (by decide +kernel)) ggX2_review_X2_isNoLease
set_option maxRecDepth 20000 in
theorem ggX2_review_X2_fails : GoodIn wsX2_review wsX2_fails := goodIn_r _ [19, 1, 40, 41, 42, 43, 44, 45, 46, 47, 48, 49, 50, 51, 52] (by decide +kernel) (by decide +kernel)
set_option maxRecDepth 20000 in
theorem gX2_review_X2_fails : GoodIn wsX2_review (wsV RX2 60 RX2 yX2_fails wsX2_fails) := goodIn_app (goodIn_of _ (by decide +kernel)) ggX2_review_X2_fails
set_option maxRecDepth 20000 in
theorem ggX2_review_X2_in : GoodIn wsX2_review wsX2_in := goodIn_r _ [15] (by decide +kernel) (by decide +kernel)
set_option maxRecDepth 20000 in
theorem gX2_review_X2_in : GoodIn wsX2_review (va_wsS RX2 50 yX2_in wsX2_in) := goodIn_app (goodIn_of _ (by decide +kernel)) ggX2_review_X2_in
set_option maxRecDepth 20000 in
theorem ggX2_review_X2_left : GoodIn wsX2_review wsX2_left := goodIn_r _ [23, 3, 2, 40, 41, 42, 43, 44, 45, 46, 47, 48, 49, 50, 51, 52] (by decide +kernel) (by decide +kernel)
set_option maxRecDepth 20000 in
theorem gX2_review_X2_left : GoodIn wsX2_review (wsV RX2 67 RX2 yX2_left wsX2_left) := goodIn_app (goodIn_of _ (by decide +kernel)) ggX2_review_X2_left
set_option maxRecDepth 20000 in
theorem ggX2_review_X2_laidAgain : GoodIn wsX2_review wsX2_laidAgain := goodIn_r _ [27, 28, 29, 30, 31, 32, 33, 10, 34, 2, 35, 36, 37, 38, 39, 6, 3, 4, 40, 41, 42, 43, 44, 45, 46, 47, 48, 49, 50, 51, 52] (by decide +kernel) (by decide +kernel)
set_option maxRecDepth 20000 in
theorem gX2_review_X2_laidAgain : GoodIn wsX2_review (wsV RX2 80 RX2 yX2_laidAgain wsX2_laidAgain) := goodIn_app (goodIn_of _ (by decide +kernel)) ggX2_review_X2_laidAgain
theorem dX2_review_0 : decode cX2_review 0 = .ok (.aload_n 0, 1) := by decide +kernel
theorem dX2_review_1 : decode cX2_review 1 = .ok (.iconst 0, 1) := by decide +kernel
theorem dX2_review_2 : decode cX2_review 2 = .ok (.putfield 43, 3) := by decide +kernel
theorem dX2_review_5 : decode cX2_review 5 = .ok (.aload_n 0, 1) := by decide +kernel
theorem dX2_review_6 : decode cX2_review 6 = .ok (.iload_n 1, 1) := by decide +kernel
theorem dX2_review_7 : decode cX2_review 7 = .ok (.invokevirtual 74, 3) := by decide +kernel
theorem dX2_review_10 : decode cX2_review 10 = .ok (.ifCond .eq 9, 3) := by decide +kernel
theorem dX2_review_13 : decode cX2_review 13 = .ok (.aload_n 0, 1) := by decide +kernel
theorem dX2_review_14 : decode cX2_review 14 = .ok (.iconst 1, 1) := by decide +kernel
theorem dX2_review_15 : decode cX2_review 15 = .ok (.invokevirtual 60, 3) := by decide +kernel
theorem dX2_review_18 : decode cX2_review 18 = .ok (.ireturn, 1) := by decide +kernel
theorem dX2_review_19 : decode cX2_review 19 = .ok (.iload_n 2, 1) := by decide +kernel
theorem dX2_review_20 : decode cX2_review 20 = .ok (.bipush (-50), 2) := by decide +kernel
theorem dX2_review_22 : decode cX2_review 22 = .ok (.bipush 100, 2) := by decide +kernel
theorem dX2_review_24 : decode cX2_review 24 = .ok (.invokestatic 50, 3) := by decide +kernel
theorem dX2_review_27 : decode cX2_review 27 = .ok (.ifCond .ne 9, 3) := by decide +kernel
theorem dX2_review_30 : decode cX2_review 30 = .ok (.aload_n 0, 1) := by decide +kernel
theorem dX2_review_31 : decode cX2_review 31 = .ok (.iconst 2, 1) := by decide +kernel
theorem dX2_review_32 : decode cX2_review 32 = .ok (.invokevirtual 60, 3) := by decide +kernel
theorem dX2_review_35 : decode cX2_review 35 = .ok (.ireturn, 1) := by decide +kernel
theorem dX2_review_36 : decode cX2_review 36 = .ok (.aload_n 0, 1) := by decide +kernel
theorem dX2_review_37 : decode cX2_review 37 = .ok (.iload_n 1, 1) := by decide +kernel
theorem dX2_review_38 : decode cX2_review 38 = .ok (.invokevirtual 67, 3) := by decide +kernel
theorem dX2_review_41 : decode cX2_review 41 = .ok (.ifCond .ne 7, 3) := by decide +kernel
theorem dX2_review_44 : decode cX2_review 44 = .ok (.iconst 1, 1) := by decide +kernel
theorem dX2_review_45 : decode cX2_review 45 = .ok (.goto 4, 3) := by decide +kernel
theorem dX2_review_48 : decode cX2_review 48 = .ok (.iconst 0, 1) := by decide +kernel
theorem dX2_review_49 : decode cX2_review 49 = .ok (.istore_n 3, 1) := by decide +kernel
theorem dX2_review_50 : decode cX2_review 50 = .ok (.aload_n 0, 1) := by decide +kernel
theorem dX2_review_51 : decode cX2_review 51 = .ok (.getfield 16, 3) := by decide +kernel
theorem dX2_review_54 : decode cX2_review 54 = .ok (.iload_n 1, 1) := by decide +kernel
theorem dX2_review_55 : decode cX2_review 55 = .ok (.iaload, 1) := by decide +kernel
theorem dX2_review_56 : decode cX2_review 56 = .ok (.istore 4, 2) := by decide +kernel
theorem dX2_review_58 : decode cX2_review 58 = .ok (.iload 4, 2) := by decide +kernel
theorem dX2_review_60 : decode cX2_review 60 = .ok (.aload_n 0, 1) := by decide +kernel
theorem dX2_review_61 : decode cX2_review 61 = .ok (.getfield 13, 3) := by decide +kernel
theorem dX2_review_64 : decode cX2_review 64 = .ok (.iload_n 1, 1) := by decide +kernel
theorem dX2_review_65 : decode cX2_review 65 = .ok (.iaload, 1) := by decide +kernel
theorem dX2_review_66 : decode cX2_review 66 = .ok (.if_icmp .ge 47, 3) := by decide +kernel
theorem dX2_review_69 : decode cX2_review 69 = .ok (.iload_n 3, 1) := by decide +kernel
theorem dX2_review_70 : decode cX2_review 70 = .ok (.aload_n 0, 1) := by decide +kernel
theorem dX2_review_71 : decode cX2_review 71 = .ok (.getfield 7, 3) := by decide +kernel
theorem dX2_review_74 : decode cX2_review 74 = .ok (.bipush 120, 2) := by decide +kernel
theorem dX2_review_76 : decode cX2_review 76 = .ok (.iload_n 1, 1) := by decide +kernel
theorem dX2_review_77 : decode cX2_review 77 = .ok (.imul, 1) := by decide +kernel
theorem dX2_review_78 : decode cX2_review 78 = .ok (.iload 4, 2) := by decide +kernel
theorem dX2_review_80 : decode cX2_review 80 = .ok (.iadd, 1) := by decide +kernel
theorem dX2_review_81 : decode cX2_review 81 = .ok (.iaload, 1) := by decide +kernel
theorem dX2_review_82 : decode cX2_review 82 = .ok (.i2l, 1) := by decide +kernel
theorem dX2_review_83 : decode cX2_review 83 = .ok (.bipush 100, 2) := by decide +kernel
theorem dX2_review_85 : decode cX2_review 85 = .ok (.iload_n 2, 1) := by decide +kernel
theorem dX2_review_86 : decode cX2_review 86 = .ok (.iadd, 1) := by decide +kernel
theorem dX2_review_87 : decode cX2_review 87 = .ok (.i2l, 1) := by decide +kernel
theorem dX2_review_88 : decode cX2_review 88 = .ok (.lmul, 1) := by decide +kernel
theorem dX2_review_89 : decode cX2_review 89 = .ok (.ldc2_w 78, 3) := by decide +kernel
theorem dX2_review_92 : decode cX2_review 92 = .ok (.ldiv, 1) := by decide +kernel
theorem dX2_review_93 : decode cX2_review 93 = .ok (.ldc2_w 54, 3) := by decide +kernel
theorem dX2_review_96 : decode cX2_review 96 = .ok (.lcmp, 1) := by decide +kernel
theorem dX2_review_97 : decode cX2_review 97 = .ok (.ifCond .le 7, 3) := by decide +kernel
theorem dX2_review_100 : decode cX2_review 100 = .ok (.iconst 1, 1) := by decide +kernel
theorem dX2_review_101 : decode cX2_review 101 = .ok (.goto 4, 3) := by decide +kernel
theorem dX2_review_104 : decode cX2_review 104 = .ok (.iconst 0, 1) := by decide +kernel
theorem dX2_review_105 : decode cX2_review 105 = .ok (.ior, 1) := by decide +kernel
theorem dX2_review_106 : decode cX2_review 106 = .ok (.istore_n 3, 1) := by decide +kernel
theorem dX2_review_107 : decode cX2_review 107 = .ok (.iinc 4 1, 3) := by decide +kernel
theorem dX2_review_110 : decode cX2_review 110 = .ok (.goto (-52), 3) := by decide +kernel
theorem dX2_review_113 : decode cX2_review 113 = .ok (.iload_n 3, 1) := by decide +kernel
theorem dX2_review_114 : decode cX2_review 114 = .ok (.ifCond .eq 9, 3) := by decide +kernel
theorem dX2_review_117 : decode cX2_review 117 = .ok (.aload_n 0, 1) := by decide +kernel
theorem dX2_review_118 : decode cX2_review 118 = .ok (.iconst 3, 1) := by decide +kernel
theorem dX2_review_119 : decode cX2_review 119 = .ok (.invokevirtual 60, 3) := by decide +kernel
theorem dX2_review_122 : decode cX2_review 122 = .ok (.ireturn, 1) := by decide +kernel
theorem dX2_review_123 : decode cX2_review 123 = .ok (.aload_n 0, 1) := by decide +kernel
theorem dX2_review_124 : decode cX2_review 124 = .ok (.getfield 16, 3) := by decide +kernel
theorem dX2_review_127 : decode cX2_review 127 = .ok (.iload_n 1, 1) := by decide +kernel
theorem dX2_review_128 : decode cX2_review 128 = .ok (.iaload, 1) := by decide +kernel
theorem dX2_review_129 : decode cX2_review 129 = .ok (.istore 4, 2) := by decide +kernel
theorem dX2_review_131 : decode cX2_review 131 = .ok (.iload 4, 2) := by decide +kernel
theorem dX2_review_133 : decode cX2_review 133 = .ok (.aload_n 0, 1) := by decide +kernel
theorem dX2_review_134 : decode cX2_review 134 = .ok (.getfield 13, 3) := by decide +kernel
theorem dX2_review_137 : decode cX2_review 137 = .ok (.iload_n 1, 1) := by decide +kernel
theorem dX2_review_138 : decode cX2_review 138 = .ok (.iaload, 1) := by decide +kernel
theorem dX2_review_139 : decode cX2_review 139 = .ok (.if_icmp .ge 45, 3) := by decide +kernel
theorem dX2_review_142 : decode cX2_review 142 = .ok (.aload_n 0, 1) := by decide +kernel
theorem dX2_review_143 : decode cX2_review 143 = .ok (.getfield 7, 3) := by decide +kernel
theorem dX2_review_146 : decode cX2_review 146 = .ok (.bipush 120, 2) := by decide +kernel
theorem dX2_review_148 : decode cX2_review 148 = .ok (.iload_n 1, 1) := by decide +kernel
theorem dX2_review_149 : decode cX2_review 149 = .ok (.imul, 1) := by decide +kernel
theorem dX2_review_150 : decode cX2_review 150 = .ok (.iload 4, 2) := by decide +kernel
theorem dX2_review_152 : decode cX2_review 152 = .ok (.iadd, 1) := by decide +kernel
theorem dX2_review_153 : decode cX2_review 153 = .ok (.aload_n 0, 1) := by decide +kernel
theorem dX2_review_154 : decode cX2_review 154 = .ok (.getfield 7, 3) := by decide +kernel
theorem dX2_review_157 : decode cX2_review 157 = .ok (.bipush 120, 2) := by decide +kernel
theorem dX2_review_159 : decode cX2_review 159 = .ok (.iload_n 1, 1) := by decide +kernel
theorem dX2_review_160 : decode cX2_review 160 = .ok (.imul, 1) := by decide +kernel
theorem dX2_review_161 : decode cX2_review 161 = .ok (.iload 4, 2) := by decide +kernel
theorem dX2_review_163 : decode cX2_review 163 = .ok (.iadd, 1) := by decide +kernel
theorem dX2_review_164 : decode cX2_review 164 = .ok (.iaload, 1) := by decide +kernel
theorem dX2_review_165 : decode cX2_review 165 = .ok (.i2l, 1) := by decide +kernel
theorem dX2_review_166 : decode cX2_review 166 = .ok (.bipush 100, 2) := by decide +kernel
theorem dX2_review_168 : decode cX2_review 168 = .ok (.iload_n 2, 1) := by decide +kernel
theorem dX2_review_169 : decode cX2_review 169 = .ok (.iadd, 1) := by decide +kernel
theorem dX2_review_170 : decode cX2_review 170 = .ok (.i2l, 1) := by decide +kernel
theorem dX2_review_171 : decode cX2_review 171 = .ok (.lmul, 1) := by decide +kernel
theorem dX2_review_172 : decode cX2_review 172 = .ok (.ldc2_w 78, 3) := by decide +kernel
theorem dX2_review_175 : decode cX2_review 175 = .ok (.ldiv, 1) := by decide +kernel
theorem dX2_review_176 : decode cX2_review 176 = .ok (.l2i, 1) := by decide +kernel
theorem dX2_review_177 : decode cX2_review 177 = .ok (.iastore, 1) := by decide +kernel
theorem dX2_review_178 : decode cX2_review 178 = .ok (.iinc 4 1, 3) := by decide +kernel
theorem dX2_review_181 : decode cX2_review 181 = .ok (.goto (-50), 3) := by decide +kernel
theorem dX2_review_184 : decode cX2_review 184 = .ok (.aload_n 0, 1) := by decide +kernel
theorem dX2_review_185 : decode cX2_review 185 = .ok (.iload_n 1, 1) := by decide +kernel
theorem dX2_review_186 : decode cX2_review 186 = .ok (.invokevirtual 80, 3) := by decide +kernel
theorem dX2_review_189 : decode cX2_review 189 = .ok (.ireturn, 1) := by decide +kernel
set_option maxRecDepth 20000 in
theorem ggX2_lengthen_X2_isNoLease : GoodIn wsX2_lengthen wsX2_isNoLease := goodIn_r _ [8, 9, 10, 11, 7, 12, 39, 40, 41, 42, 43, 44, 45, 46, 47, 48, 49, 50, 51] (by decide +kernel) (by decide +kernel)
set_option maxRecDepth 20000 in
theorem gX2_lengthen_X2_isNoLease : GoodIn wsX2_lengthen (wsV RX2 74 RX2 yX2_isNoLease wsX2_isNoLease) := goodIn_app (goodIn_of _ (by decide +kernel)) ggX2_lengthen_X2_isNoLease
set_option maxRecDepth 20000 in
theorem ggX2_lengthen_X2_fails : GoodIn wsX2_lengthen wsX2_fails := goodIn_r _ [16, 1, 39, 40, 41, 42, 43, 44, 45, 46, 47, 48, 49, 50, 51] (by decide +kernel) (by decide +kernel)
set_option maxRecDepth 20000 in
theorem gX2_lengthen_X2_fails : GoodIn wsX2_lengthen (wsV RX2 60 RX2 yX2_fails wsX2_fails) := goodIn_app (goodIn_of _ (by decide +kernel)) ggX2_lengthen_X2_fails
set_option maxRecDepth 20000 in
theorem ggX2_lengthen_X2_in : GoodIn wsX2_lengthen wsX2_in := goodIn_r _ [12] (by decide +kernel) (by decide +kernel)
set_option maxRecDepth 20000 in
theorem gX2_lengthen_X2_in : GoodIn wsX2_lengthen (va_wsS RX2 50 yX2_in wsX2_in) := goodIn_app (goodIn_of _ (by decide +kernel)) ggX2_lengthen_X2_in
set_option maxRecDepth 20000 in
theorem ggX2_lengthen_X2_left : GoodIn wsX2_lengthen wsX2_left := goodIn_r _ [20, 2, 21, 39, 40, 41, 42, 43, 44, 45, 46, 47, 48, 49, 50, 51] (by decide +kernel) (by decide +kernel)
set_option maxRecDepth 20000 in
theorem gX2_lengthen_X2_left : GoodIn wsX2_lengthen (wsV RX2 67 RX2 yX2_left wsX2_left) := goodIn_app (goodIn_of _ (by decide +kernel)) ggX2_lengthen_X2_left
set_option maxRecDepth 20000 in
theorem ggX2_lengthen_X2_laidAgain : GoodIn wsX2_lengthen wsX2_laidAgain := goodIn_r _ [25, 26, 27, 28, 29, 30, 31, 7, 32, 21, 33, 34, 35, 36, 37, 38, 2, 3, 39, 40, 41, 42, 43, 44, 45, 46, 47, 48, 49, 50, 51] (by decide +kernel) (by decide +kernel)
set_option maxRecDepth 20000 in
theorem gX2_lengthen_X2_laidAgain : GoodIn wsX2_lengthen (wsV RX2 80 RX2 yX2_laidAgain wsX2_laidAgain) := goodIn_app (goodIn_of _ (by decide +kernel)) ggX2_lengthen_X2_laidAgain
theorem dX2_lengthen_0 : decode cX2_lengthen 0 = .ok (.aload_n 0, 1) := by decide +kernel
theorem dX2_lengthen_1 : decode cX2_lengthen 1 = .ok (.iconst 0, 1) := by decide +kernel
theorem dX2_lengthen_2 : decode cX2_lengthen 2 = .ok (.putfield 43, 3) := by decide +kernel
theorem dX2_lengthen_5 : decode cX2_lengthen 5 = .ok (.aload_n 0, 1) := by decide +kernel
theorem dX2_lengthen_6 : decode cX2_lengthen 6 = .ok (.iload_n 1, 1) := by decide +kernel
theorem dX2_lengthen_7 : decode cX2_lengthen 7 = .ok (.invokevirtual 74, 3) := by decide +kernel
theorem dX2_lengthen_10 : decode cX2_lengthen 10 = .ok (.ifCond .eq 9, 3) := by decide +kernel
theorem dX2_lengthen_13 : decode cX2_lengthen 13 = .ok (.aload_n 0, 1) := by decide +kernel
theorem dX2_lengthen_14 : decode cX2_lengthen 14 = .ok (.iconst 1, 1) := by decide +kernel
theorem dX2_lengthen_15 : decode cX2_lengthen 15 = .ok (.invokevirtual 60, 3) := by decide +kernel
theorem dX2_lengthen_18 : decode cX2_lengthen 18 = .ok (.ireturn, 1) := by decide +kernel
theorem dX2_lengthen_19 : decode cX2_lengthen 19 = .ok (.iload_n 2, 1) := by decide +kernel
theorem dX2_lengthen_20 : decode cX2_lengthen 20 = .ok (.iconst 1, 1) := by decide +kernel
theorem dX2_lengthen_21 : decode cX2_lengthen 21 = .ok (.bipush 36, 2) := by decide +kernel
theorem dX2_lengthen_23 : decode cX2_lengthen 23 = .ok (.invokestatic 50, 3) := by decide +kernel
theorem dX2_lengthen_26 : decode cX2_lengthen 26 = .ok (.ifCond .eq 14, 3) := by decide +kernel
theorem dX2_lengthen_29 : decode cX2_lengthen 29 = .ok (.iload_n 3, 1) := by decide +kernel
theorem dX2_lengthen_30 : decode cX2_lengthen 30 = .ok (.iconst 0, 1) := by decide +kernel
theorem dX2_lengthen_31 : decode cX2_lengthen 31 = .ok (.sipush 10000, 3) := by decide +kernel
theorem dX2_lengthen_34 : decode cX2_lengthen 34 = .ok (.invokestatic 50, 3) := by decide +kernel
theorem dX2_lengthen_37 : decode cX2_lengthen 37 = .ok (.ifCond .ne 9, 3) := by decide +kernel
theorem dX2_lengthen_40 : decode cX2_lengthen 40 = .ok (.aload_n 0, 1) := by decide +kernel
theorem dX2_lengthen_41 : decode cX2_lengthen 41 = .ok (.iconst 2, 1) := by decide +kernel
theorem dX2_lengthen_42 : decode cX2_lengthen 42 = .ok (.invokevirtual 60, 3) := by decide +kernel
theorem dX2_lengthen_45 : decode cX2_lengthen 45 = .ok (.ireturn, 1) := by decide +kernel
theorem dX2_lengthen_46 : decode cX2_lengthen 46 = .ok (.aload_n 0, 1) := by decide +kernel
theorem dX2_lengthen_47 : decode cX2_lengthen 47 = .ok (.iload_n 1, 1) := by decide +kernel
theorem dX2_lengthen_48 : decode cX2_lengthen 48 = .ok (.invokevirtual 67, 3) := by decide +kernel
theorem dX2_lengthen_51 : decode cX2_lengthen 51 = .ok (.ifCond .eq 16, 3) := by decide +kernel
theorem dX2_lengthen_54 : decode cX2_lengthen 54 = .ok (.aload_n 0, 1) := by decide +kernel
theorem dX2_lengthen_55 : decode cX2_lengthen 55 = .ok (.getfield 13, 3) := by decide +kernel
theorem dX2_lengthen_58 : decode cX2_lengthen 58 = .ok (.iload_n 1, 1) := by decide +kernel
theorem dX2_lengthen_59 : decode cX2_lengthen 59 = .ok (.iaload, 1) := by decide +kernel
theorem dX2_lengthen_60 : decode cX2_lengthen 60 = .ok (.iload_n 2, 1) := by decide +kernel
theorem dX2_lengthen_61 : decode cX2_lengthen 61 = .ok (.iadd, 1) := by decide +kernel
theorem dX2_lengthen_62 : decode cX2_lengthen 62 = .ok (.bipush 120, 2) := by decide +kernel
theorem dX2_lengthen_64 : decode cX2_lengthen 64 = .ok (.if_icmp .le 9, 3) := by decide +kernel
theorem dX2_lengthen_67 : decode cX2_lengthen 67 = .ok (.aload_n 0, 1) := by decide +kernel
theorem dX2_lengthen_68 : decode cX2_lengthen 68 = .ok (.iconst 3, 1) := by decide +kernel
theorem dX2_lengthen_69 : decode cX2_lengthen 69 = .ok (.invokevirtual 60, 3) := by decide +kernel
theorem dX2_lengthen_72 : decode cX2_lengthen 72 = .ok (.ireturn, 1) := by decide +kernel
theorem dX2_lengthen_73 : decode cX2_lengthen 73 = .ok (.iconst 0, 1) := by decide +kernel
theorem dX2_lengthen_74 : decode cX2_lengthen 74 = .ok (.istore 4, 2) := by decide +kernel
theorem dX2_lengthen_76 : decode cX2_lengthen 76 = .ok (.iload 4, 2) := by decide +kernel
theorem dX2_lengthen_78 : decode cX2_lengthen 78 = .ok (.iload_n 2, 1) := by decide +kernel
theorem dX2_lengthen_79 : decode cX2_lengthen 79 = .ok (.if_icmp .ge 29, 3) := by decide +kernel
theorem dX2_lengthen_82 : decode cX2_lengthen 82 = .ok (.aload_n 0, 1) := by decide +kernel
theorem dX2_lengthen_83 : decode cX2_lengthen 83 = .ok (.getfield 7, 3) := by decide +kernel
theorem dX2_lengthen_86 : decode cX2_lengthen 86 = .ok (.bipush 120, 2) := by decide +kernel
theorem dX2_lengthen_88 : decode cX2_lengthen 88 = .ok (.iload_n 1, 1) := by decide +kernel
theorem dX2_lengthen_89 : decode cX2_lengthen 89 = .ok (.imul, 1) := by decide +kernel
theorem dX2_lengthen_90 : decode cX2_lengthen 90 = .ok (.aload_n 0, 1) := by decide +kernel
theorem dX2_lengthen_91 : decode cX2_lengthen 91 = .ok (.getfield 13, 3) := by decide +kernel
theorem dX2_lengthen_94 : decode cX2_lengthen 94 = .ok (.iload_n 1, 1) := by decide +kernel
theorem dX2_lengthen_95 : decode cX2_lengthen 95 = .ok (.iaload, 1) := by decide +kernel
theorem dX2_lengthen_96 : decode cX2_lengthen 96 = .ok (.iadd, 1) := by decide +kernel
theorem dX2_lengthen_97 : decode cX2_lengthen 97 = .ok (.iload 4, 2) := by decide +kernel
theorem dX2_lengthen_99 : decode cX2_lengthen 99 = .ok (.iadd, 1) := by decide +kernel
theorem dX2_lengthen_100 : decode cX2_lengthen 100 = .ok (.iload_n 3, 1) := by decide +kernel
theorem dX2_lengthen_101 : decode cX2_lengthen 101 = .ok (.iastore, 1) := by decide +kernel
theorem dX2_lengthen_102 : decode cX2_lengthen 102 = .ok (.iinc 4 1, 3) := by decide +kernel
theorem dX2_lengthen_105 : decode cX2_lengthen 105 = .ok (.goto (-29), 3) := by decide +kernel
theorem dX2_lengthen_108 : decode cX2_lengthen 108 = .ok (.aload_n 0, 1) := by decide +kernel
theorem dX2_lengthen_109 : decode cX2_lengthen 109 = .ok (.getfield 13, 3) := by decide +kernel
theorem dX2_lengthen_112 : decode cX2_lengthen 112 = .ok (.iload_n 1, 1) := by decide +kernel
theorem dX2_lengthen_113 : decode cX2_lengthen 113 = .ok (.dup2, 1) := by decide +kernel
theorem dX2_lengthen_114 : decode cX2_lengthen 114 = .ok (.iaload, 1) := by decide +kernel
theorem dX2_lengthen_115 : decode cX2_lengthen 115 = .ok (.iload_n 2, 1) := by decide +kernel
theorem dX2_lengthen_116 : decode cX2_lengthen 116 = .ok (.iadd, 1) := by decide +kernel
theorem dX2_lengthen_117 : decode cX2_lengthen 117 = .ok (.iastore, 1) := by decide +kernel
theorem dX2_lengthen_118 : decode cX2_lengthen 118 = .ok (.aload_n 0, 1) := by decide +kernel
theorem dX2_lengthen_119 : decode cX2_lengthen 119 = .ok (.iload_n 1, 1) := by decide +kernel
theorem dX2_lengthen_120 : decode cX2_lengthen 120 = .ok (.invokevirtual 80, 3) := by decide +kernel
theorem dX2_lengthen_123 : decode cX2_lengthen 123 = .ok (.ireturn, 1) := by decide +kernel
set_option maxRecDepth 20000 in
theorem ggX2_givenUp_X2_worthNow : GoodIn wsX2_givenUp wsX2_worthNow := goodIn_r _ [8, 9, 10, 11, 12, 13, 7, 14, 15, 16, 17, 18, 19, 20, 21, 22, 23, 24, 25, 26, 27, 28, 29, 30] (by decide +kernel) (by decide +kernel)
set_option maxRecDepth 20000 in
theorem gX2_givenUp_X2_worthNow : GoodIn wsX2_givenUp (wsV RX2 64 RX2 yX2_worthNow wsX2_worthNow) := goodIn_app (goodIn_of _ (by decide +kernel)) ggX2_givenUp_X2_worthNow
theorem dX2_givenUp_0 : decode cX2_givenUp 0 = .ok (.aload_n 0, 1) := by decide +kernel
theorem dX2_givenUp_1 : decode cX2_givenUp 1 = .ok (.getfield 25, 3) := by decide +kernel
theorem dX2_givenUp_4 : decode cX2_givenUp 4 = .ok (.iload_n 1, 1) := by decide +kernel
theorem dX2_givenUp_5 : decode cX2_givenUp 5 = .ok (.iaload, 1) := by decide +kernel
theorem dX2_givenUp_6 : decode cX2_givenUp 6 = .ok (.aload_n 0, 1) := by decide +kernel
theorem dX2_givenUp_7 : decode cX2_givenUp 7 = .ok (.iload_n 1, 1) := by decide +kernel
theorem dX2_givenUp_8 : decode cX2_givenUp 8 = .ok (.invokevirtual 64, 3) := by decide +kernel
theorem dX2_givenUp_11 : decode cX2_givenUp 11 = .ok (.isub, 1) := by decide +kernel
theorem dX2_givenUp_12 : decode cX2_givenUp 12 = .ok (.istore_n 3, 1) := by decide +kernel
theorem dX2_givenUp_13 : decode cX2_givenUp 13 = .ok (.iload_n 3, 1) := by decide +kernel
theorem dX2_givenUp_14 : decode cX2_givenUp 14 = .ok (.aload_n 0, 1) := by decide +kernel
theorem dX2_givenUp_15 : decode cX2_givenUp 15 = .ok (.getfield 28, 3) := by decide +kernel
theorem dX2_givenUp_18 : decode cX2_givenUp 18 = .ok (.iload_n 1, 1) := by decide +kernel
theorem dX2_givenUp_19 : decode cX2_givenUp 19 = .ok (.iaload, 1) := by decide +kernel
theorem dX2_givenUp_20 : decode cX2_givenUp 20 = .ok (.iload_n 2, 1) := by decide +kernel
theorem dX2_givenUp_21 : decode cX2_givenUp 21 = .ok (.isub, 1) := by decide +kernel
theorem dX2_givenUp_22 : decode cX2_givenUp 22 = .ok (.isub, 1) := by decide +kernel
theorem dX2_givenUp_23 : decode cX2_givenUp 23 = .ok (.istore 4, 2) := by decide +kernel
theorem dX2_givenUp_25 : decode cX2_givenUp 25 = .ok (.aload_n 0, 1) := by decide +kernel
theorem dX2_givenUp_26 : decode cX2_givenUp 26 = .ok (.getfield 25, 3) := by decide +kernel
theorem dX2_givenUp_29 : decode cX2_givenUp 29 = .ok (.iload_n 1, 1) := by decide +kernel
theorem dX2_givenUp_30 : decode cX2_givenUp 30 = .ok (.dup2, 1) := by decide +kernel
theorem dX2_givenUp_31 : decode cX2_givenUp 31 = .ok (.iaload, 1) := by decide +kernel
theorem dX2_givenUp_32 : decode cX2_givenUp 32 = .ok (.iload_n 3, 1) := by decide +kernel
theorem dX2_givenUp_33 : decode cX2_givenUp 33 = .ok (.isub, 1) := by decide +kernel
theorem dX2_givenUp_34 : decode cX2_givenUp 34 = .ok (.iastore, 1) := by decide +kernel
theorem dX2_givenUp_35 : decode cX2_givenUp 35 = .ok (.aload_n 0, 1) := by decide +kernel
theorem dX2_givenUp_36 : decode cX2_givenUp 36 = .ok (.getfield 28, 3) := by decide +kernel
theorem dX2_givenUp_39 : decode cX2_givenUp 39 = .ok (.iload_n 1, 1) := by decide +kernel
theorem dX2_givenUp_40 : decode cX2_givenUp 40 = .ok (.iload_n 2, 1) := by decide +kernel
theorem dX2_givenUp_41 : decode cX2_givenUp 41 = .ok (.iastore, 1) := by decide +kernel
theorem dX2_givenUp_42 : decode cX2_givenUp 42 = .ok (.aload_n 0, 1) := by decide +kernel
theorem dX2_givenUp_43 : decode cX2_givenUp 43 = .ok (.getfield 40, 3) := by decide +kernel
theorem dX2_givenUp_46 : decode cX2_givenUp 46 = .ok (.iload_n 1, 1) := by decide +kernel
theorem dX2_givenUp_47 : decode cX2_givenUp 47 = .ok (.dup2, 1) := by decide +kernel
theorem dX2_givenUp_48 : decode cX2_givenUp 48 = .ok (.iaload, 1) := by decide +kernel
theorem dX2_givenUp_49 : decode cX2_givenUp 49 = .ok (.iload 4, 2) := by decide +kernel
theorem dX2_givenUp_51 : decode cX2_givenUp 51 = .ok (.iadd, 1) := by decide +kernel
theorem dX2_givenUp_52 : decode cX2_givenUp 52 = .ok (.iastore, 1) := by decide +kernel
theorem dX2_givenUp_53 : decode cX2_givenUp 53 = .ok (.iload 4, 2) := by decide +kernel
theorem dX2_givenUp_55 : decode cX2_givenUp 55 = .ok (.ireturn, 1) := by decide +kernel
set_option maxRecDepth 20000 in
theorem ggX2_shorten_X2_isNoLease : GoodIn wsX2_shorten wsX2_isNoLease := goodIn_r _ [8, 9, 10, 11, 7, 12, 39, 40, 41, 42, 43, 44, 45, 46, 47, 48, 49, 50, 51] (by decide +kernel) (by decide +kernel)
set_option maxRecDepth 20000 in
theorem gX2_shorten_X2_isNoLease : GoodIn wsX2_shorten (wsV RX2 74 RX2 yX2_isNoLease wsX2_isNoLease) := goodIn_app (goodIn_of _ (by decide +kernel)) ggX2_shorten_X2_isNoLease
set_option maxRecDepth 20000 in
theorem ggX2_shorten_X2_fails : GoodIn wsX2_shorten wsX2_fails := goodIn_r _ [16, 1, 39, 40, 41, 42, 43, 44, 45, 46, 47, 48, 49, 50, 51] (by decide +kernel) (by decide +kernel)
set_option maxRecDepth 20000 in
theorem gX2_shorten_X2_fails : GoodIn wsX2_shorten (wsV RX2 60 RX2 yX2_fails wsX2_fails) := goodIn_app (goodIn_of _ (by decide +kernel)) ggX2_shorten_X2_fails
set_option maxRecDepth 20000 in
theorem ggX2_shorten_X2_in : GoodIn wsX2_shorten wsX2_in := goodIn_r _ [12] (by decide +kernel) (by decide +kernel)
set_option maxRecDepth 20000 in
theorem gX2_shorten_X2_in : GoodIn wsX2_shorten (va_wsS RX2 50 yX2_in wsX2_in) := goodIn_app (goodIn_of _ (by decide +kernel)) ggX2_shorten_X2_in
set_option maxRecDepth 20000 in
theorem ggX2_shorten_X2_left : GoodIn wsX2_shorten wsX2_left := goodIn_r _ [20, 2, 21, 39, 40, 41, 42, 43, 44, 45, 46, 47, 48, 49, 50, 51] (by decide +kernel) (by decide +kernel)
set_option maxRecDepth 20000 in
theorem gX2_shorten_X2_left : GoodIn wsX2_shorten (wsV RX2 67 RX2 yX2_left wsX2_left) := goodIn_app (goodIn_of _ (by decide +kernel)) ggX2_shorten_X2_left
set_option maxRecDepth 20000 in
theorem ggX2_shorten_X2_givenUp : GoodIn wsX2_shorten wsX2_givenUp := goodIn_r _ [25, 26, 3, 27, 28, 29, 30, 7, 31, 21, 32, 33, 34, 35, 36, 37, 2, 38, 39, 40, 41, 42, 43, 44, 45, 46, 47, 48, 49, 50, 51] (by decide +kernel) (by decide +kernel)
set_option maxRecDepth 20000 in
theorem gX2_shorten_X2_givenUp : GoodIn wsX2_shorten (wsV RX2 83 RX2 yX2_givenUp wsX2_givenUp) := goodIn_app (goodIn_of _ (by decide +kernel)) ggX2_shorten_X2_givenUp
theorem dX2_shorten_0 : decode cX2_shorten 0 = .ok (.aload_n 0, 1) := by decide +kernel
theorem dX2_shorten_1 : decode cX2_shorten 1 = .ok (.iconst 0, 1) := by decide +kernel
theorem dX2_shorten_2 : decode cX2_shorten 2 = .ok (.putfield 43, 3) := by decide +kernel
theorem dX2_shorten_5 : decode cX2_shorten 5 = .ok (.aload_n 0, 1) := by decide +kernel
theorem dX2_shorten_6 : decode cX2_shorten 6 = .ok (.iload_n 1, 1) := by decide +kernel
theorem dX2_shorten_7 : decode cX2_shorten 7 = .ok (.invokevirtual 74, 3) := by decide +kernel
theorem dX2_shorten_10 : decode cX2_shorten 10 = .ok (.ifCond .eq 9, 3) := by decide +kernel
theorem dX2_shorten_13 : decode cX2_shorten 13 = .ok (.aload_n 0, 1) := by decide +kernel
theorem dX2_shorten_14 : decode cX2_shorten 14 = .ok (.iconst 1, 1) := by decide +kernel
theorem dX2_shorten_15 : decode cX2_shorten 15 = .ok (.invokevirtual 60, 3) := by decide +kernel
theorem dX2_shorten_18 : decode cX2_shorten 18 = .ok (.ireturn, 1) := by decide +kernel
theorem dX2_shorten_19 : decode cX2_shorten 19 = .ok (.iload_n 2, 1) := by decide +kernel
theorem dX2_shorten_20 : decode cX2_shorten 20 = .ok (.iconst 1, 1) := by decide +kernel
theorem dX2_shorten_21 : decode cX2_shorten 21 = .ok (.bipush 60, 2) := by decide +kernel
theorem dX2_shorten_23 : decode cX2_shorten 23 = .ok (.invokestatic 50, 3) := by decide +kernel
theorem dX2_shorten_26 : decode cX2_shorten 26 = .ok (.ifCond .ne 9, 3) := by decide +kernel
theorem dX2_shorten_29 : decode cX2_shorten 29 = .ok (.aload_n 0, 1) := by decide +kernel
theorem dX2_shorten_30 : decode cX2_shorten 30 = .ok (.iconst 2, 1) := by decide +kernel
theorem dX2_shorten_31 : decode cX2_shorten 31 = .ok (.invokevirtual 60, 3) := by decide +kernel
theorem dX2_shorten_34 : decode cX2_shorten 34 = .ok (.ireturn, 1) := by decide +kernel
theorem dX2_shorten_35 : decode cX2_shorten 35 = .ok (.aload_n 0, 1) := by decide +kernel
theorem dX2_shorten_36 : decode cX2_shorten 36 = .ok (.iload_n 1, 1) := by decide +kernel
theorem dX2_shorten_37 : decode cX2_shorten 37 = .ok (.invokevirtual 67, 3) := by decide +kernel
theorem dX2_shorten_40 : decode cX2_shorten 40 = .ok (.istore_n 3, 1) := by decide +kernel
theorem dX2_shorten_41 : decode cX2_shorten 41 = .ok (.iload_n 3, 1) := by decide +kernel
theorem dX2_shorten_42 : decode cX2_shorten 42 = .ok (.iload_n 2, 1) := by decide +kernel
theorem dX2_shorten_43 : decode cX2_shorten 43 = .ok (.isub, 1) := by decide +kernel
theorem dX2_shorten_44 : decode cX2_shorten 44 = .ok (.iconst 1, 1) := by decide +kernel
theorem dX2_shorten_45 : decode cX2_shorten 45 = .ok (.if_icmp .ge 9, 3) := by decide +kernel
theorem dX2_shorten_48 : decode cX2_shorten 48 = .ok (.aload_n 0, 1) := by decide +kernel
theorem dX2_shorten_49 : decode cX2_shorten 49 = .ok (.iconst 3, 1) := by decide +kernel
theorem dX2_shorten_50 : decode cX2_shorten 50 = .ok (.invokevirtual 60, 3) := by decide +kernel
theorem dX2_shorten_53 : decode cX2_shorten 53 = .ok (.ireturn, 1) := by decide +kernel
theorem dX2_shorten_54 : decode cX2_shorten 54 = .ok (.aload_n 0, 1) := by decide +kernel
theorem dX2_shorten_55 : decode cX2_shorten 55 = .ok (.getfield 13, 3) := by decide +kernel
theorem dX2_shorten_58 : decode cX2_shorten 58 = .ok (.iload_n 1, 1) := by decide +kernel
theorem dX2_shorten_59 : decode cX2_shorten 59 = .ok (.dup2, 1) := by decide +kernel
theorem dX2_shorten_60 : decode cX2_shorten 60 = .ok (.iaload, 1) := by decide +kernel
theorem dX2_shorten_61 : decode cX2_shorten 61 = .ok (.iload_n 2, 1) := by decide +kernel
theorem dX2_shorten_62 : decode cX2_shorten 62 = .ok (.isub, 1) := by decide +kernel
theorem dX2_shorten_63 : decode cX2_shorten 63 = .ok (.iastore, 1) := by decide +kernel
theorem dX2_shorten_64 : decode cX2_shorten 64 = .ok (.aload_n 0, 1) := by decide +kernel
theorem dX2_shorten_65 : decode cX2_shorten 65 = .ok (.iload_n 1, 1) := by decide +kernel
theorem dX2_shorten_66 : decode cX2_shorten 66 = .ok (.aload_n 0, 1) := by decide +kernel
theorem dX2_shorten_67 : decode cX2_shorten 67 = .ok (.getfield 28, 3) := by decide +kernel
theorem dX2_shorten_70 : decode cX2_shorten 70 = .ok (.iload_n 1, 1) := by decide +kernel
theorem dX2_shorten_71 : decode cX2_shorten 71 = .ok (.iaload, 1) := by decide +kernel
theorem dX2_shorten_72 : decode cX2_shorten 72 = .ok (.i2l, 1) := by decide +kernel
theorem dX2_shorten_73 : decode cX2_shorten 73 = .ok (.iload_n 3, 1) := by decide +kernel
theorem dX2_shorten_74 : decode cX2_shorten 74 = .ok (.iload_n 2, 1) := by decide +kernel
theorem dX2_shorten_75 : decode cX2_shorten 75 = .ok (.isub, 1) := by decide +kernel
theorem dX2_shorten_76 : decode cX2_shorten 76 = .ok (.i2l, 1) := by decide +kernel
theorem dX2_shorten_77 : decode cX2_shorten 77 = .ok (.lmul, 1) := by decide +kernel
theorem dX2_shorten_78 : decode cX2_shorten 78 = .ok (.iload_n 3, 1) := by decide +kernel
theorem dX2_shorten_79 : decode cX2_shorten 79 = .ok (.i2l, 1) := by decide +kernel
theorem dX2_shorten_80 : decode cX2_shorten 80 = .ok (.ldiv, 1) := by decide +kernel
theorem dX2_shorten_81 : decode cX2_shorten 81 = .ok (.l2i, 1) := by decide +kernel
theorem dX2_shorten_82 : decode cX2_shorten 82 = .ok (.invokevirtual 83, 3) := by decide +kernel
theorem dX2_shorten_85 : decode cX2_shorten 85 = .ok (.ireturn, 1) := by decide +kernel
set_option maxRecDepth 20000 in
theorem ggX2_cut_X2_isNoLease : GoodIn wsX2_cut wsX2_isNoLease := goodIn_r _ [11, 12, 13, 14, 10, 15, 40, 41, 42, 43, 44, 45, 46, 47, 48, 49, 50, 51, 52] (by decide +kernel) (by decide +kernel)
set_option maxRecDepth 20000 in
theorem gX2_cut_X2_isNoLease : GoodIn wsX2_cut (wsV RX2 74 RX2 yX2_isNoLease wsX2_isNoLease) := goodIn_app (goodIn_of _ (by decide +kernel)) ggX2_cut_X2_isNoLease
set_option maxRecDepth 20000 in
theorem ggX2_cut_X2_fails : GoodIn wsX2_cut wsX2_fails := goodIn_r _ [19, 1, 40, 41, 42, 43, 44, 45, 46, 47, 48, 49, 50, 51, 52] (by decide +kernel) (by decide +kernel)
set_option maxRecDepth 20000 in
theorem gX2_cut_X2_fails : GoodIn wsX2_cut (wsV RX2 60 RX2 yX2_fails wsX2_fails) := goodIn_app (goodIn_of _ (by decide +kernel)) ggX2_cut_X2_fails
set_option maxRecDepth 20000 in
theorem ggX2_cut_X2_in : GoodIn wsX2_cut wsX2_in := goodIn_r _ [15] (by decide +kernel) (by decide +kernel)
set_option maxRecDepth 20000 in
theorem gX2_cut_X2_in : GoodIn wsX2_cut (va_wsS RX2 50 yX2_in wsX2_in) := goodIn_app (goodIn_of _ (by decide +kernel)) ggX2_cut_X2_in
set_option maxRecDepth 20000 in
theorem ggX2_cut_X2_left : GoodIn wsX2_cut wsX2_left := goodIn_r _ [23, 3, 2, 40, 41, 42, 43, 44, 45, 46, 47, 48, 49, 50, 51, 52] (by decide +kernel) (by decide +kernel)
set_option maxRecDepth 20000 in
theorem gX2_cut_X2_left : GoodIn wsX2_cut (wsV RX2 67 RX2 yX2_left wsX2_left) := goodIn_app (goodIn_of _ (by decide +kernel)) ggX2_cut_X2_left
set_option maxRecDepth 20000 in
theorem ggX2_cut_X2_givenUp : GoodIn wsX2_cut wsX2_givenUp := goodIn_r _ [27, 28, 6, 29, 30, 31, 32, 10, 33, 2, 34, 35, 36, 37, 38, 39, 3, 4, 40, 41, 42, 43, 44, 45, 46, 47, 48, 49, 50, 51, 52] (by decide +kernel) (by decide +kernel)
set_option maxRecDepth 20000 in
theorem gX2_cut_X2_givenUp : GoodIn wsX2_cut (wsV RX2 83 RX2 yX2_givenUp wsX2_givenUp) := goodIn_app (goodIn_of _ (by decide +kernel)) ggX2_cut_X2_givenUp
theorem dX2_cut_0 : decode cX2_cut 0 = .ok (.aload_n 0, 1) := by decide +kernel
theorem dX2_cut_1 : decode cX2_cut 1 = .ok (.iconst 0, 1) := by decide +kernel
theorem dX2_cut_2 : decode cX2_cut 2 = .ok (.putfield 43, 3) := by decide +kernel
theorem dX2_cut_5 : decode cX2_cut 5 = .ok (.aload_n 0, 1) := by decide +kernel
theorem dX2_cut_6 : decode cX2_cut 6 = .ok (.iload_n 1, 1) := by decide +kernel
theorem dX2_cut_7 : decode cX2_cut 7 = .ok (.invokevirtual 74, 3) := by decide +kernel
theorem dX2_cut_10 : decode cX2_cut 10 = .ok (.ifCond .eq 9, 3) := by decide +kernel
theorem dX2_cut_13 : decode cX2_cut 13 = .ok (.aload_n 0, 1) := by decide +kernel
theorem dX2_cut_14 : decode cX2_cut 14 = .ok (.iconst 1, 1) := by decide +kernel
theorem dX2_cut_15 : decode cX2_cut 15 = .ok (.invokevirtual 60, 3) := by decide +kernel
theorem dX2_cut_18 : decode cX2_cut 18 = .ok (.ireturn, 1) := by decide +kernel
theorem dX2_cut_19 : decode cX2_cut 19 = .ok (.iload_n 2, 1) := by decide +kernel
theorem dX2_cut_20 : decode cX2_cut 20 = .ok (.iconst 1, 1) := by decide +kernel
theorem dX2_cut_21 : decode cX2_cut 21 = .ok (.bipush 99, 2) := by decide +kernel
theorem dX2_cut_23 : decode cX2_cut 23 = .ok (.invokestatic 50, 3) := by decide +kernel
theorem dX2_cut_26 : decode cX2_cut 26 = .ok (.ifCond .ne 9, 3) := by decide +kernel
theorem dX2_cut_29 : decode cX2_cut 29 = .ok (.aload_n 0, 1) := by decide +kernel
theorem dX2_cut_30 : decode cX2_cut 30 = .ok (.iconst 2, 1) := by decide +kernel
theorem dX2_cut_31 : decode cX2_cut 31 = .ok (.invokevirtual 60, 3) := by decide +kernel
theorem dX2_cut_34 : decode cX2_cut 34 = .ok (.ireturn, 1) := by decide +kernel
theorem dX2_cut_35 : decode cX2_cut 35 = .ok (.aload_n 0, 1) := by decide +kernel
theorem dX2_cut_36 : decode cX2_cut 36 = .ok (.iload_n 1, 1) := by decide +kernel
theorem dX2_cut_37 : decode cX2_cut 37 = .ok (.invokevirtual 67, 3) := by decide +kernel
theorem dX2_cut_40 : decode cX2_cut 40 = .ok (.ifCond .ne 9, 3) := by decide +kernel
theorem dX2_cut_43 : decode cX2_cut 43 = .ok (.aload_n 0, 1) := by decide +kernel
theorem dX2_cut_44 : decode cX2_cut 44 = .ok (.iconst 3, 1) := by decide +kernel
theorem dX2_cut_45 : decode cX2_cut 45 = .ok (.invokevirtual 60, 3) := by decide +kernel
theorem dX2_cut_48 : decode cX2_cut 48 = .ok (.ireturn, 1) := by decide +kernel
theorem dX2_cut_49 : decode cX2_cut 49 = .ok (.aload_n 0, 1) := by decide +kernel
theorem dX2_cut_50 : decode cX2_cut 50 = .ok (.getfield 16, 3) := by decide +kernel
theorem dX2_cut_53 : decode cX2_cut 53 = .ok (.iload_n 1, 1) := by decide +kernel
theorem dX2_cut_54 : decode cX2_cut 54 = .ok (.iaload, 1) := by decide +kernel
theorem dX2_cut_55 : decode cX2_cut 55 = .ok (.istore_n 3, 1) := by decide +kernel
theorem dX2_cut_56 : decode cX2_cut 56 = .ok (.iload_n 3, 1) := by decide +kernel
theorem dX2_cut_57 : decode cX2_cut 57 = .ok (.aload_n 0, 1) := by decide +kernel
theorem dX2_cut_58 : decode cX2_cut 58 = .ok (.getfield 13, 3) := by decide +kernel
theorem dX2_cut_61 : decode cX2_cut 61 = .ok (.iload_n 1, 1) := by decide +kernel
theorem dX2_cut_62 : decode cX2_cut 62 = .ok (.iaload, 1) := by decide +kernel
theorem dX2_cut_63 : decode cX2_cut 63 = .ok (.if_icmp .ge 43, 3) := by decide +kernel
theorem dX2_cut_66 : decode cX2_cut 66 = .ok (.aload_n 0, 1) := by decide +kernel
theorem dX2_cut_67 : decode cX2_cut 67 = .ok (.getfield 7, 3) := by decide +kernel
theorem dX2_cut_70 : decode cX2_cut 70 = .ok (.bipush 120, 2) := by decide +kernel
theorem dX2_cut_72 : decode cX2_cut 72 = .ok (.iload_n 1, 1) := by decide +kernel
theorem dX2_cut_73 : decode cX2_cut 73 = .ok (.imul, 1) := by decide +kernel
theorem dX2_cut_74 : decode cX2_cut 74 = .ok (.iload_n 3, 1) := by decide +kernel
theorem dX2_cut_75 : decode cX2_cut 75 = .ok (.iadd, 1) := by decide +kernel
theorem dX2_cut_76 : decode cX2_cut 76 = .ok (.aload_n 0, 1) := by decide +kernel
theorem dX2_cut_77 : decode cX2_cut 77 = .ok (.getfield 7, 3) := by decide +kernel
theorem dX2_cut_80 : decode cX2_cut 80 = .ok (.bipush 120, 2) := by decide +kernel
theorem dX2_cut_82 : decode cX2_cut 82 = .ok (.iload_n 1, 1) := by decide +kernel
theorem dX2_cut_83 : decode cX2_cut 83 = .ok (.imul, 1) := by decide +kernel
theorem dX2_cut_84 : decode cX2_cut 84 = .ok (.iload_n 3, 1) := by decide +kernel
theorem dX2_cut_85 : decode cX2_cut 85 = .ok (.iadd, 1) := by decide +kernel
theorem dX2_cut_86 : decode cX2_cut 86 = .ok (.iaload, 1) := by decide +kernel
theorem dX2_cut_87 : decode cX2_cut 87 = .ok (.i2l, 1) := by decide +kernel
theorem dX2_cut_88 : decode cX2_cut 88 = .ok (.bipush 100, 2) := by decide +kernel
theorem dX2_cut_90 : decode cX2_cut 90 = .ok (.iload_n 2, 1) := by decide +kernel
theorem dX2_cut_91 : decode cX2_cut 91 = .ok (.isub, 1) := by decide +kernel
theorem dX2_cut_92 : decode cX2_cut 92 = .ok (.i2l, 1) := by decide +kernel
theorem dX2_cut_93 : decode cX2_cut 93 = .ok (.lmul, 1) := by decide +kernel
theorem dX2_cut_94 : decode cX2_cut 94 = .ok (.ldc2_w 78, 3) := by decide +kernel
theorem dX2_cut_97 : decode cX2_cut 97 = .ok (.ldiv, 1) := by decide +kernel
theorem dX2_cut_98 : decode cX2_cut 98 = .ok (.l2i, 1) := by decide +kernel
theorem dX2_cut_99 : decode cX2_cut 99 = .ok (.iastore, 1) := by decide +kernel
theorem dX2_cut_100 : decode cX2_cut 100 = .ok (.iinc 3 1, 3) := by decide +kernel
theorem dX2_cut_103 : decode cX2_cut 103 = .ok (.goto (-47), 3) := by decide +kernel
theorem dX2_cut_106 : decode cX2_cut 106 = .ok (.aload_n 0, 1) := by decide +kernel
theorem dX2_cut_107 : decode cX2_cut 107 = .ok (.iload_n 1, 1) := by decide +kernel
theorem dX2_cut_108 : decode cX2_cut 108 = .ok (.aload_n 0, 1) := by decide +kernel
theorem dX2_cut_109 : decode cX2_cut 109 = .ok (.getfield 28, 3) := by decide +kernel
theorem dX2_cut_112 : decode cX2_cut 112 = .ok (.iload_n 1, 1) := by decide +kernel
theorem dX2_cut_113 : decode cX2_cut 113 = .ok (.iaload, 1) := by decide +kernel
theorem dX2_cut_114 : decode cX2_cut 114 = .ok (.i2l, 1) := by decide +kernel
theorem dX2_cut_115 : decode cX2_cut 115 = .ok (.bipush 100, 2) := by decide +kernel
theorem dX2_cut_117 : decode cX2_cut 117 = .ok (.iload_n 2, 1) := by decide +kernel
theorem dX2_cut_118 : decode cX2_cut 118 = .ok (.isub, 1) := by decide +kernel
theorem dX2_cut_119 : decode cX2_cut 119 = .ok (.i2l, 1) := by decide +kernel
theorem dX2_cut_120 : decode cX2_cut 120 = .ok (.lmul, 1) := by decide +kernel
theorem dX2_cut_121 : decode cX2_cut 121 = .ok (.ldc2_w 78, 3) := by decide +kernel
theorem dX2_cut_124 : decode cX2_cut 124 = .ok (.ldiv, 1) := by decide +kernel
theorem dX2_cut_125 : decode cX2_cut 125 = .ok (.l2i, 1) := by decide +kernel
theorem dX2_cut_126 : decode cX2_cut 126 = .ok (.invokevirtual 83, 3) := by decide +kernel
theorem dX2_cut_129 : decode cX2_cut 129 = .ok (.ireturn, 1) := by decide +kernel
set_option maxRecDepth 20000 in
theorem ggX2_toCome_X2_isNoLease : GoodIn wsX2_toCome wsX2_isNoLease := goodIn_r _ [6, 7, 8, 9, 5, 10, 21, 22, 23, 24, 25, 26, 27, 28, 29, 30, 31, 32, 33] (by decide +kernel) (by decide +kernel)
set_option maxRecDepth 20000 in
theorem gX2_toCome_X2_isNoLease : GoodIn wsX2_toCome (wsV RX2 74 RX2 yX2_isNoLease wsX2_isNoLease) := goodIn_app (goodIn_of _ (by decide +kernel)) ggX2_toCome_X2_isNoLease
set_option maxRecDepth 20000 in
theorem ggX2_toCome_X2_fails : GoodIn wsX2_toCome wsX2_fails := goodIn_r _ [14, 1, 21, 22, 23, 24, 25, 26, 27, 28, 29, 30, 31, 32, 33] (by decide +kernel) (by decide +kernel)
set_option maxRecDepth 20000 in
theorem gX2_toCome_X2_fails : GoodIn wsX2_toCome (wsV RX2 60 RX2 yX2_fails wsX2_fails) := goodIn_app (goodIn_of _ (by decide +kernel)) ggX2_toCome_X2_fails
set_option maxRecDepth 20000 in
theorem ggX2_toCome_X2_left : GoodIn wsX2_toCome wsX2_left := goodIn_r _ [18, 19, 20, 21, 22, 23, 24, 25, 26, 27, 28, 29, 30, 31, 32, 33] (by decide +kernel) (by decide +kernel)
set_option maxRecDepth 20000 in
theorem gX2_toCome_X2_left : GoodIn wsX2_toCome (wsV RX2 67 RX2 yX2_left wsX2_left) := goodIn_app (goodIn_of _ (by decide +kernel)) ggX2_toCome_X2_left
theorem dX2_toCome_0 : decode cX2_toCome 0 = .ok (.aload_n 0, 1) := by decide +kernel
theorem dX2_toCome_1 : decode cX2_toCome 1 = .ok (.iconst 0, 1) := by decide +kernel
theorem dX2_toCome_2 : decode cX2_toCome 2 = .ok (.putfield 43, 3) := by decide +kernel
theorem dX2_toCome_5 : decode cX2_toCome 5 = .ok (.aload_n 0, 1) := by decide +kernel
theorem dX2_toCome_6 : decode cX2_toCome 6 = .ok (.iload_n 1, 1) := by decide +kernel
theorem dX2_toCome_7 : decode cX2_toCome 7 = .ok (.invokevirtual 74, 3) := by decide +kernel
theorem dX2_toCome_10 : decode cX2_toCome 10 = .ok (.ifCond .eq 11, 3) := by decide +kernel
theorem dX2_toCome_13 : decode cX2_toCome 13 = .ok (.aload_n 0, 1) := by decide +kernel
theorem dX2_toCome_14 : decode cX2_toCome 14 = .ok (.iconst 1, 1) := by decide +kernel
theorem dX2_toCome_15 : decode cX2_toCome 15 = .ok (.invokevirtual 60, 3) := by decide +kernel
theorem dX2_toCome_18 : decode cX2_toCome 18 = .ok (.goto 8, 3) := by decide +kernel
theorem dX2_toCome_21 : decode cX2_toCome 21 = .ok (.aload_n 0, 1) := by decide +kernel
theorem dX2_toCome_22 : decode cX2_toCome 22 = .ok (.iload_n 1, 1) := by decide +kernel
theorem dX2_toCome_23 : decode cX2_toCome 23 = .ok (.invokevirtual 67, 3) := by decide +kernel
theorem dX2_toCome_26 : decode cX2_toCome 26 = .ok (.ireturn, 1) := by decide +kernel
set_option maxRecDepth 20000 in
theorem ggX2_payment_X2_isNoLease : GoodIn wsX2_payment wsX2_isNoLease := goodIn_r _ [8, 9, 10, 11, 7, 12, 22, 23, 24, 25, 26, 27, 28, 29, 30, 31, 32, 33, 34] (by decide +kernel) (by decide +kernel)
set_option maxRecDepth 20000 in
theorem gX2_payment_X2_isNoLease : GoodIn wsX2_payment (wsV RX2 74 RX2 yX2_isNoLease wsX2_isNoLease) := goodIn_app (goodIn_of _ (by decide +kernel)) ggX2_payment_X2_isNoLease
set_option maxRecDepth 20000 in
theorem ggX2_payment_X2_left : GoodIn wsX2_payment wsX2_left := goodIn_r _ [16, 17, 3, 22, 23, 24, 25, 26, 27, 28, 29, 30, 31, 32, 33, 34] (by decide +kernel) (by decide +kernel)
set_option maxRecDepth 20000 in
theorem gX2_payment_X2_left : GoodIn wsX2_payment (wsV RX2 67 RX2 yX2_left wsX2_left) := goodIn_app (goodIn_of _ (by decide +kernel)) ggX2_payment_X2_left
set_option maxRecDepth 20000 in
theorem ggX2_payment_X2_in : GoodIn wsX2_payment wsX2_in := goodIn_r _ [12] (by decide +kernel) (by decide +kernel)
set_option maxRecDepth 20000 in
theorem gX2_payment_X2_in : GoodIn wsX2_payment (va_wsS RX2 50 yX2_in wsX2_in) := goodIn_app (goodIn_of _ (by decide +kernel)) ggX2_payment_X2_in
set_option maxRecDepth 20000 in
theorem ggX2_payment_X2_fails : GoodIn wsX2_payment wsX2_fails := goodIn_r _ [21, 1, 22, 23, 24, 25, 26, 27, 28, 29, 30, 31, 32, 33, 34] (by decide +kernel) (by decide +kernel)
set_option maxRecDepth 20000 in
theorem gX2_payment_X2_fails : GoodIn wsX2_payment (wsV RX2 60 RX2 yX2_fails wsX2_fails) := goodIn_app (goodIn_of _ (by decide +kernel)) ggX2_payment_X2_fails
theorem dX2_payment_0 : decode cX2_payment 0 = .ok (.aload_n 0, 1) := by decide +kernel
theorem dX2_payment_1 : decode cX2_payment 1 = .ok (.iconst 0, 1) := by decide +kernel
theorem dX2_payment_2 : decode cX2_payment 2 = .ok (.putfield 43, 3) := by decide +kernel
theorem dX2_payment_5 : decode cX2_payment 5 = .ok (.aload_n 0, 1) := by decide +kernel
theorem dX2_payment_6 : decode cX2_payment 6 = .ok (.iload_n 1, 1) := by decide +kernel
theorem dX2_payment_7 : decode cX2_payment 7 = .ok (.invokevirtual 74, 3) := by decide +kernel
theorem dX2_payment_10 : decode cX2_payment 10 = .ok (.ifCond .ne 18, 3) := by decide +kernel
theorem dX2_payment_13 : decode cX2_payment 13 = .ok (.iload_n 2, 1) := by decide +kernel
theorem dX2_payment_14 : decode cX2_payment 14 = .ok (.iconst 0, 1) := by decide +kernel
theorem dX2_payment_15 : decode cX2_payment 15 = .ok (.aload_n 0, 1) := by decide +kernel
theorem dX2_payment_16 : decode cX2_payment 16 = .ok (.iload_n 1, 1) := by decide +kernel
theorem dX2_payment_17 : decode cX2_payment 17 = .ok (.invokevirtual 67, 3) := by decide +kernel
theorem dX2_payment_20 : decode cX2_payment 20 = .ok (.iconst 1, 1) := by decide +kernel
theorem dX2_payment_21 : decode cX2_payment 21 = .ok (.isub, 1) := by decide +kernel
theorem dX2_payment_22 : decode cX2_payment 22 = .ok (.invokestatic 50, 3) := by decide +kernel
theorem dX2_payment_25 : decode cX2_payment 25 = .ok (.ifCond .ne 11, 3) := by decide +kernel
theorem dX2_payment_28 : decode cX2_payment 28 = .ok (.aload_n 0, 1) := by decide +kernel
theorem dX2_payment_29 : decode cX2_payment 29 = .ok (.iconst 1, 1) := by decide +kernel
theorem dX2_payment_30 : decode cX2_payment 30 = .ok (.invokevirtual 60, 3) := by decide +kernel
theorem dX2_payment_33 : decode cX2_payment 33 = .ok (.goto 21, 3) := by decide +kernel
theorem dX2_payment_36 : decode cX2_payment 36 = .ok (.aload_n 0, 1) := by decide +kernel
theorem dX2_payment_37 : decode cX2_payment 37 = .ok (.getfield 7, 3) := by decide +kernel
theorem dX2_payment_40 : decode cX2_payment 40 = .ok (.bipush 120, 2) := by decide +kernel
theorem dX2_payment_42 : decode cX2_payment 42 = .ok (.iload_n 1, 1) := by decide +kernel
theorem dX2_payment_43 : decode cX2_payment 43 = .ok (.imul, 1) := by decide +kernel
theorem dX2_payment_44 : decode cX2_payment 44 = .ok (.aload_n 0, 1) := by decide +kernel
theorem dX2_payment_45 : decode cX2_payment 45 = .ok (.getfield 16, 3) := by decide +kernel
theorem dX2_payment_48 : decode cX2_payment 48 = .ok (.iload_n 1, 1) := by decide +kernel
theorem dX2_payment_49 : decode cX2_payment 49 = .ok (.iaload, 1) := by decide +kernel
theorem dX2_payment_50 : decode cX2_payment 50 = .ok (.iadd, 1) := by decide +kernel
theorem dX2_payment_51 : decode cX2_payment 51 = .ok (.iload_n 2, 1) := by decide +kernel
theorem dX2_payment_52 : decode cX2_payment 52 = .ok (.iadd, 1) := by decide +kernel
theorem dX2_payment_53 : decode cX2_payment 53 = .ok (.iaload, 1) := by decide +kernel
theorem dX2_payment_54 : decode cX2_payment 54 = .ok (.ireturn, 1) := by decide +kernel
set_option maxRecDepth 20000 in
theorem ggX2_debt_X2_isNoLease : GoodIn wsX2_debt wsX2_isNoLease := goodIn_r _ [7, 8, 9, 10, 6, 11, 16, 17, 18, 19, 20, 21, 22, 23, 24, 25, 26, 27, 28] (by decide +kernel) (by decide +kernel)
set_option maxRecDepth 20000 in
theorem gX2_debt_X2_isNoLease : GoodIn wsX2_debt (wsV RX2 74 RX2 yX2_isNoLease wsX2_isNoLease) := goodIn_app (goodIn_of _ (by decide +kernel)) ggX2_debt_X2_isNoLease
set_option maxRecDepth 20000 in
theorem ggX2_debt_X2_fails : GoodIn wsX2_debt wsX2_fails := goodIn_r _ [15, 1, 16, 17, 18, 19, 20, 21, 22, 23, 24, 25, 26, 27, 28] (by decide +kernel) (by decide +kernel)
set_option maxRecDepth 20000 in
theorem gX2_debt_X2_fails : GoodIn wsX2_debt (wsV RX2 60 RX2 yX2_fails wsX2_fails) := goodIn_app (goodIn_of _ (by decide +kernel)) ggX2_debt_X2_fails
theorem dX2_debt_0 : decode cX2_debt 0 = .ok (.aload_n 0, 1) := by decide +kernel
theorem dX2_debt_1 : decode cX2_debt 1 = .ok (.iconst 0, 1) := by decide +kernel
theorem dX2_debt_2 : decode cX2_debt 2 = .ok (.putfield 43, 3) := by decide +kernel
theorem dX2_debt_5 : decode cX2_debt 5 = .ok (.aload_n 0, 1) := by decide +kernel
theorem dX2_debt_6 : decode cX2_debt 6 = .ok (.iload_n 1, 1) := by decide +kernel
theorem dX2_debt_7 : decode cX2_debt 7 = .ok (.invokevirtual 74, 3) := by decide +kernel
theorem dX2_debt_10 : decode cX2_debt 10 = .ok (.ifCond .eq 11, 3) := by decide +kernel
theorem dX2_debt_13 : decode cX2_debt 13 = .ok (.aload_n 0, 1) := by decide +kernel
theorem dX2_debt_14 : decode cX2_debt 14 = .ok (.iconst 1, 1) := by decide +kernel
theorem dX2_debt_15 : decode cX2_debt 15 = .ok (.invokevirtual 60, 3) := by decide +kernel
theorem dX2_debt_18 : decode cX2_debt 18 = .ok (.goto 9, 3) := by decide +kernel
theorem dX2_debt_21 : decode cX2_debt 21 = .ok (.aload_n 0, 1) := by decide +kernel
theorem dX2_debt_22 : decode cX2_debt 22 = .ok (.getfield 25, 3) := by decide +kernel
theorem dX2_debt_25 : decode cX2_debt 25 = .ok (.iload_n 1, 1) := by decide +kernel
theorem dX2_debt_26 : decode cX2_debt 26 = .ok (.iaload, 1) := by decide +kernel
theorem dX2_debt_27 : decode cX2_debt 27 = .ok (.ireturn, 1) := by decide +kernel
set_option maxRecDepth 20000 in
theorem ggX2_debtByWorth_X2_isNoLease : GoodIn wsX2_debtByWorth wsX2_isNoLease := goodIn_r _ [6, 7, 8, 9, 5, 10, 28, 29, 30, 31, 32, 33, 34, 35, 36, 37, 38, 39, 40] (by decide +kernel) (by decide +kernel)
set_option maxRecDepth 20000 in
theorem gX2_debtByWorth_X2_isNoLease : GoodIn wsX2_debtByWorth (wsV RX2 74 RX2 yX2_isNoLease wsX2_isNoLease) := goodIn_app (goodIn_of _ (by decide +kernel)) ggX2_debtByWorth_X2_isNoLease
set_option maxRecDepth 20000 in
theorem ggX2_debtByWorth_X2_fails : GoodIn wsX2_debtByWorth wsX2_fails := goodIn_r _ [14, 1, 28, 29, 30, 31, 32, 33, 34, 35, 36, 37, 38, 39, 40] (by decide +kernel) (by decide +kernel)
set_option maxRecDepth 20000 in
theorem gX2_debtByWorth_X2_fails : GoodIn wsX2_debtByWorth (wsV RX2 60 RX2 yX2_fails wsX2_fails) := goodIn_app (goodIn_of _ (by decide +kernel)) ggX2_debtByWorth_X2_fails
set_option maxRecDepth 20000 in
theorem ggX2_debtByWorth_X2_worthNow : GoodIn wsX2_debtByWorth wsX2_worthNow := goodIn_r _ [18, 19, 20, 21, 22, 23, 5, 24, 25, 26, 27, 28, 29, 30, 31, 32, 33, 34, 35, 36, 37, 38, 39, 40] (by decide +kernel) (by decide +kernel)
set_option maxRecDepth 20000 in
theorem gX2_debtByWorth_X2_worthNow : GoodIn wsX2_debtByWorth (wsV RX2 64 RX2 yX2_worthNow wsX2_worthNow) := goodIn_app (goodIn_of _ (by decide +kernel)) ggX2_debtByWorth_X2_worthNow
theorem dX2_debtByWorth_0 : decode cX2_debtByWorth 0 = .ok (.aload_n 0, 1) := by decide +kernel
theorem dX2_debtByWorth_1 : decode cX2_debtByWorth 1 = .ok (.iconst 0, 1) := by decide +kernel
theorem dX2_debtByWorth_2 : decode cX2_debtByWorth 2 = .ok (.putfield 43, 3) := by decide +kernel
theorem dX2_debtByWorth_5 : decode cX2_debtByWorth 5 = .ok (.aload_n 0, 1) := by decide +kernel
theorem dX2_debtByWorth_6 : decode cX2_debtByWorth 6 = .ok (.iload_n 1, 1) := by decide +kernel
theorem dX2_debtByWorth_7 : decode cX2_debtByWorth 7 = .ok (.invokevirtual 74, 3) := by decide +kernel
theorem dX2_debtByWorth_10 : decode cX2_debtByWorth 10 = .ok (.ifCond .eq 11, 3) := by decide +kernel
theorem dX2_debtByWorth_13 : decode cX2_debtByWorth 13 = .ok (.aload_n 0, 1) := by decide +kernel
theorem dX2_debtByWorth_14 : decode cX2_debtByWorth 14 = .ok (.iconst 1, 1) := by decide +kernel
theorem dX2_debtByWorth_15 : decode cX2_debtByWorth 15 = .ok (.invokevirtual 60, 3) := by decide +kernel
theorem dX2_debtByWorth_18 : decode cX2_debtByWorth 18 = .ok (.goto 8, 3) := by decide +kernel
theorem dX2_debtByWorth_21 : decode cX2_debtByWorth 21 = .ok (.aload_n 0, 1) := by decide +kernel
theorem dX2_debtByWorth_22 : decode cX2_debtByWorth 22 = .ok (.iload_n 1, 1) := by decide +kernel
theorem dX2_debtByWorth_23 : decode cX2_debtByWorth 23 = .ok (.invokevirtual 64, 3) := by decide +kernel
theorem dX2_debtByWorth_26 : decode cX2_debtByWorth 26 = .ok (.ireturn, 1) := by decide +kernel
set_option maxRecDepth 20000 in
theorem ggX2_right_X2_isNoLease : GoodIn wsX2_right wsX2_isNoLease := goodIn_r _ [7, 8, 9, 10, 6, 11, 16, 17, 18, 19, 20, 21, 22, 23, 24, 25, 26, 27, 28] (by decide +kernel) (by decide +kernel)
set_option maxRecDepth 20000 in
theorem gX2_right_X2_isNoLease : GoodIn wsX2_right (wsV RX2 74 RX2 yX2_isNoLease wsX2_isNoLease) := goodIn_app (goodIn_of _ (by decide +kernel)) ggX2_right_X2_isNoLease
set_option maxRecDepth 20000 in
theorem ggX2_right_X2_fails : GoodIn wsX2_right wsX2_fails := goodIn_r _ [15, 1, 16, 17, 18, 19, 20, 21, 22, 23, 24, 25, 26, 27, 28] (by decide +kernel) (by decide +kernel)
set_option maxRecDepth 20000 in
theorem gX2_right_X2_fails : GoodIn wsX2_right (wsV RX2 60 RX2 yX2_fails wsX2_fails) := goodIn_app (goodIn_of _ (by decide +kernel)) ggX2_right_X2_fails
theorem dX2_right_0 : decode cX2_right 0 = .ok (.aload_n 0, 1) := by decide +kernel
theorem dX2_right_1 : decode cX2_right 1 = .ok (.iconst 0, 1) := by decide +kernel
theorem dX2_right_2 : decode cX2_right 2 = .ok (.putfield 43, 3) := by decide +kernel
theorem dX2_right_5 : decode cX2_right 5 = .ok (.aload_n 0, 1) := by decide +kernel
theorem dX2_right_6 : decode cX2_right 6 = .ok (.iload_n 1, 1) := by decide +kernel
theorem dX2_right_7 : decode cX2_right 7 = .ok (.invokevirtual 74, 3) := by decide +kernel
theorem dX2_right_10 : decode cX2_right 10 = .ok (.ifCond .eq 11, 3) := by decide +kernel
theorem dX2_right_13 : decode cX2_right 13 = .ok (.aload_n 0, 1) := by decide +kernel
theorem dX2_right_14 : decode cX2_right 14 = .ok (.iconst 1, 1) := by decide +kernel
theorem dX2_right_15 : decode cX2_right 15 = .ok (.invokevirtual 60, 3) := by decide +kernel
theorem dX2_right_18 : decode cX2_right 18 = .ok (.goto 9, 3) := by decide +kernel
theorem dX2_right_21 : decode cX2_right 21 = .ok (.aload_n 0, 1) := by decide +kernel
theorem dX2_right_22 : decode cX2_right 22 = .ok (.getfield 28, 3) := by decide +kernel
theorem dX2_right_25 : decode cX2_right 25 = .ok (.iload_n 1, 1) := by decide +kernel
theorem dX2_right_26 : decode cX2_right 26 = .ok (.iaload, 1) := by decide +kernel
theorem dX2_right_27 : decode cX2_right 27 = .ok (.ireturn, 1) := by decide +kernel
set_option maxRecDepth 20000 in
theorem ggX2_interest_X2_isNoLease : GoodIn wsX2_interest wsX2_isNoLease := goodIn_r _ [7, 8, 9, 10, 6, 11, 16, 17, 18, 19, 20, 21, 22, 23, 24, 25, 26, 27, 28] (by decide +kernel) (by decide +kernel)
set_option maxRecDepth 20000 in
theorem gX2_interest_X2_isNoLease : GoodIn wsX2_interest (wsV RX2 74 RX2 yX2_isNoLease wsX2_isNoLease) := goodIn_app (goodIn_of _ (by decide +kernel)) ggX2_interest_X2_isNoLease
set_option maxRecDepth 20000 in
theorem ggX2_interest_X2_fails : GoodIn wsX2_interest wsX2_fails := goodIn_r _ [15, 1, 16, 17, 18, 19, 20, 21, 22, 23, 24, 25, 26, 27, 28] (by decide +kernel) (by decide +kernel)
set_option maxRecDepth 20000 in
theorem gX2_interest_X2_fails : GoodIn wsX2_interest (wsV RX2 60 RX2 yX2_fails wsX2_fails) := goodIn_app (goodIn_of _ (by decide +kernel)) ggX2_interest_X2_fails
theorem dX2_interest_0 : decode cX2_interest 0 = .ok (.aload_n 0, 1) := by decide +kernel
theorem dX2_interest_1 : decode cX2_interest 1 = .ok (.iconst 0, 1) := by decide +kernel
theorem dX2_interest_2 : decode cX2_interest 2 = .ok (.putfield 43, 3) := by decide +kernel
theorem dX2_interest_5 : decode cX2_interest 5 = .ok (.aload_n 0, 1) := by decide +kernel
theorem dX2_interest_6 : decode cX2_interest 6 = .ok (.iload_n 1, 1) := by decide +kernel
theorem dX2_interest_7 : decode cX2_interest 7 = .ok (.invokevirtual 74, 3) := by decide +kernel
theorem dX2_interest_10 : decode cX2_interest 10 = .ok (.ifCond .eq 11, 3) := by decide +kernel
theorem dX2_interest_13 : decode cX2_interest 13 = .ok (.aload_n 0, 1) := by decide +kernel
theorem dX2_interest_14 : decode cX2_interest 14 = .ok (.iconst 1, 1) := by decide +kernel
theorem dX2_interest_15 : decode cX2_interest 15 = .ok (.invokevirtual 60, 3) := by decide +kernel
theorem dX2_interest_18 : decode cX2_interest 18 = .ok (.goto 9, 3) := by decide +kernel
theorem dX2_interest_21 : decode cX2_interest 21 = .ok (.aload_n 0, 1) := by decide +kernel
theorem dX2_interest_22 : decode cX2_interest 22 = .ok (.getfield 31, 3) := by decide +kernel
theorem dX2_interest_25 : decode cX2_interest 25 = .ok (.iload_n 1, 1) := by decide +kernel
theorem dX2_interest_26 : decode cX2_interest 26 = .ok (.iaload, 1) := by decide +kernel
theorem dX2_interest_27 : decode cX2_interest 27 = .ok (.ireturn, 1) := by decide +kernel
set_option maxRecDepth 20000 in
theorem ggX2_written_X2_isNoLease : GoodIn wsX2_written wsX2_isNoLease := goodIn_r _ [7, 8, 9, 10, 6, 11, 16, 17, 18, 19, 20, 21, 22, 23, 24, 25, 26, 27, 28] (by decide +kernel) (by decide +kernel)
set_option maxRecDepth 20000 in
theorem gX2_written_X2_isNoLease : GoodIn wsX2_written (wsV RX2 74 RX2 yX2_isNoLease wsX2_isNoLease) := goodIn_app (goodIn_of _ (by decide +kernel)) ggX2_written_X2_isNoLease
set_option maxRecDepth 20000 in
theorem ggX2_written_X2_fails : GoodIn wsX2_written wsX2_fails := goodIn_r _ [15, 1, 16, 17, 18, 19, 20, 21, 22, 23, 24, 25, 26, 27, 28] (by decide +kernel) (by decide +kernel)
set_option maxRecDepth 20000 in
theorem gX2_written_X2_fails : GoodIn wsX2_written (wsV RX2 60 RX2 yX2_fails wsX2_fails) := goodIn_app (goodIn_of _ (by decide +kernel)) ggX2_written_X2_fails
theorem dX2_written_0 : decode cX2_written 0 = .ok (.aload_n 0, 1) := by decide +kernel
theorem dX2_written_1 : decode cX2_written 1 = .ok (.iconst 0, 1) := by decide +kernel
theorem dX2_written_2 : decode cX2_written 2 = .ok (.putfield 43, 3) := by decide +kernel
theorem dX2_written_5 : decode cX2_written 5 = .ok (.aload_n 0, 1) := by decide +kernel
theorem dX2_written_6 : decode cX2_written 6 = .ok (.iload_n 1, 1) := by decide +kernel
theorem dX2_written_7 : decode cX2_written 7 = .ok (.invokevirtual 74, 3) := by decide +kernel
theorem dX2_written_10 : decode cX2_written 10 = .ok (.ifCond .eq 11, 3) := by decide +kernel
theorem dX2_written_13 : decode cX2_written 13 = .ok (.aload_n 0, 1) := by decide +kernel
theorem dX2_written_14 : decode cX2_written 14 = .ok (.iconst 1, 1) := by decide +kernel
theorem dX2_written_15 : decode cX2_written 15 = .ok (.invokevirtual 60, 3) := by decide +kernel
theorem dX2_written_18 : decode cX2_written 18 = .ok (.goto 9, 3) := by decide +kernel
theorem dX2_written_21 : decode cX2_written 21 = .ok (.aload_n 0, 1) := by decide +kernel
theorem dX2_written_22 : decode cX2_written 22 = .ok (.getfield 34, 3) := by decide +kernel
theorem dX2_written_25 : decode cX2_written 25 = .ok (.iload_n 1, 1) := by decide +kernel
theorem dX2_written_26 : decode cX2_written 26 = .ok (.iaload, 1) := by decide +kernel
theorem dX2_written_27 : decode cX2_written 27 = .ok (.ireturn, 1) := by decide +kernel
set_option maxRecDepth 20000 in
theorem ggX2_paid_X2_isNoLease : GoodIn wsX2_paid wsX2_isNoLease := goodIn_r _ [7, 8, 9, 10, 6, 11, 16, 17, 18, 19, 20, 21, 22, 23, 24, 25, 26, 27, 28] (by decide +kernel) (by decide +kernel)
set_option maxRecDepth 20000 in
theorem gX2_paid_X2_isNoLease : GoodIn wsX2_paid (wsV RX2 74 RX2 yX2_isNoLease wsX2_isNoLease) := goodIn_app (goodIn_of _ (by decide +kernel)) ggX2_paid_X2_isNoLease
set_option maxRecDepth 20000 in
theorem ggX2_paid_X2_fails : GoodIn wsX2_paid wsX2_fails := goodIn_r _ [15, 1, 16, 17, 18, 19, 20, 21, 22, 23, 24, 25, 26, 27, 28] (by decide +kernel) (by decide +kernel)
set_option maxRecDepth 20000 in
theorem gX2_paid_X2_fails : GoodIn wsX2_paid (wsV RX2 60 RX2 yX2_fails wsX2_fails) := goodIn_app (goodIn_of _ (by decide +kernel)) ggX2_paid_X2_fails
theorem dX2_paid_0 : decode cX2_paid 0 = .ok (.aload_n 0, 1) := by decide +kernel
theorem dX2_paid_1 : decode cX2_paid 1 = .ok (.iconst 0, 1) := by decide +kernel
theorem dX2_paid_2 : decode cX2_paid 2 = .ok (.putfield 43, 3) := by decide +kernel
theorem dX2_paid_5 : decode cX2_paid 5 = .ok (.aload_n 0, 1) := by decide +kernel
theorem dX2_paid_6 : decode cX2_paid 6 = .ok (.iload_n 1, 1) := by decide +kernel
theorem dX2_paid_7 : decode cX2_paid 7 = .ok (.invokevirtual 74, 3) := by decide +kernel
theorem dX2_paid_10 : decode cX2_paid 10 = .ok (.ifCond .eq 11, 3) := by decide +kernel
theorem dX2_paid_13 : decode cX2_paid 13 = .ok (.aload_n 0, 1) := by decide +kernel
theorem dX2_paid_14 : decode cX2_paid 14 = .ok (.iconst 1, 1) := by decide +kernel
theorem dX2_paid_15 : decode cX2_paid 15 = .ok (.invokevirtual 60, 3) := by decide +kernel
theorem dX2_paid_18 : decode cX2_paid 18 = .ok (.goto 9, 3) := by decide +kernel
theorem dX2_paid_21 : decode cX2_paid 21 = .ok (.aload_n 0, 1) := by decide +kernel
theorem dX2_paid_22 : decode cX2_paid 22 = .ok (.getfield 37, 3) := by decide +kernel
theorem dX2_paid_25 : decode cX2_paid 25 = .ok (.iload_n 1, 1) := by decide +kernel
theorem dX2_paid_26 : decode cX2_paid 26 = .ok (.iaload, 1) := by decide +kernel
theorem dX2_paid_27 : decode cX2_paid 27 = .ok (.ireturn, 1) := by decide +kernel
set_option maxRecDepth 20000 in
theorem ggX2_gains_X2_isNoLease : GoodIn wsX2_gains wsX2_isNoLease := goodIn_r _ [7, 8, 9, 10, 6, 11, 16, 17, 18, 19, 20, 21, 22, 23, 24, 25, 26, 27, 28] (by decide +kernel) (by decide +kernel)
set_option maxRecDepth 20000 in
theorem gX2_gains_X2_isNoLease : GoodIn wsX2_gains (wsV RX2 74 RX2 yX2_isNoLease wsX2_isNoLease) := goodIn_app (goodIn_of _ (by decide +kernel)) ggX2_gains_X2_isNoLease
set_option maxRecDepth 20000 in
theorem ggX2_gains_X2_fails : GoodIn wsX2_gains wsX2_fails := goodIn_r _ [15, 1, 16, 17, 18, 19, 20, 21, 22, 23, 24, 25, 26, 27, 28] (by decide +kernel) (by decide +kernel)
set_option maxRecDepth 20000 in
theorem gX2_gains_X2_fails : GoodIn wsX2_gains (wsV RX2 60 RX2 yX2_fails wsX2_fails) := goodIn_app (goodIn_of _ (by decide +kernel)) ggX2_gains_X2_fails
theorem dX2_gains_0 : decode cX2_gains 0 = .ok (.aload_n 0, 1) := by decide +kernel
theorem dX2_gains_1 : decode cX2_gains 1 = .ok (.iconst 0, 1) := by decide +kernel
theorem dX2_gains_2 : decode cX2_gains 2 = .ok (.putfield 43, 3) := by decide +kernel
theorem dX2_gains_5 : decode cX2_gains 5 = .ok (.aload_n 0, 1) := by decide +kernel
theorem dX2_gains_6 : decode cX2_gains 6 = .ok (.iload_n 1, 1) := by decide +kernel
theorem dX2_gains_7 : decode cX2_gains 7 = .ok (.invokevirtual 74, 3) := by decide +kernel
theorem dX2_gains_10 : decode cX2_gains 10 = .ok (.ifCond .eq 11, 3) := by decide +kernel
theorem dX2_gains_13 : decode cX2_gains 13 = .ok (.aload_n 0, 1) := by decide +kernel
theorem dX2_gains_14 : decode cX2_gains 14 = .ok (.iconst 1, 1) := by decide +kernel
theorem dX2_gains_15 : decode cX2_gains 15 = .ok (.invokevirtual 60, 3) := by decide +kernel
theorem dX2_gains_18 : decode cX2_gains 18 = .ok (.goto 9, 3) := by decide +kernel
theorem dX2_gains_21 : decode cX2_gains 21 = .ok (.aload_n 0, 1) := by decide +kernel
theorem dX2_gains_22 : decode cX2_gains 22 = .ok (.getfield 40, 3) := by decide +kernel
theorem dX2_gains_25 : decode cX2_gains 25 = .ok (.iload_n 1, 1) := by decide +kernel
theorem dX2_gains_26 : decode cX2_gains 26 = .ok (.iaload, 1) := by decide +kernel
theorem dX2_gains_27 : decode cX2_gains 27 = .ok (.ireturn, 1) := by decide +kernel
set_option maxRecDepth 20000 in
theorem ggX2_rateFor_X2_isNoLease : GoodIn wsX2_rateFor wsX2_isNoLease := goodIn_r _ [8, 9, 10, 11, 7, 12, 24, 25, 26, 27, 28, 29, 30, 31, 32, 33, 34, 35, 36] (by decide +kernel) (by decide +kernel)
set_option maxRecDepth 20000 in
theorem gX2_rateFor_X2_isNoLease : GoodIn wsX2_rateFor (wsV RX2 74 RX2 yX2_isNoLease wsX2_isNoLease) := goodIn_app (goodIn_of _ (by decide +kernel)) ggX2_rateFor_X2_isNoLease
set_option maxRecDepth 20000 in
theorem ggX2_rateFor_X2_fails : GoodIn wsX2_rateFor wsX2_fails := goodIn_r _ [16, 1, 24, 25, 26, 27, 28, 29, 30, 31, 32, 33, 34, 35, 36] (by decide +kernel) (by decide +kernel)
set_option maxRecDepth 20000 in
theorem gX2_rateFor_X2_fails : GoodIn wsX2_rateFor (wsV RX2 60 RX2 yX2_fails wsX2_fails) := goodIn_app (goodIn_of _ (by decide +kernel)) ggX2_rateFor_X2_fails
set_option maxRecDepth 20000 in
theorem ggX2_rateFor_X2_in : GoodIn wsX2_rateFor wsX2_in := goodIn_r _ [12] (by decide +kernel) (by decide +kernel)
set_option maxRecDepth 20000 in
theorem gX2_rateFor_X2_in : GoodIn wsX2_rateFor (va_wsS RX2 50 yX2_in wsX2_in) := goodIn_app (goodIn_of _ (by decide +kernel)) ggX2_rateFor_X2_in
set_option maxRecDepth 20000 in
theorem ggX2_rateFor_X2_worth : GoodIn wsX2_rateFor wsX2_worth := goodIn_r _ [20, 21, 22, 23, 24, 25, 26, 27, 28, 29, 30, 31, 32, 33, 34, 35, 36] (by decide +kernel) (by decide +kernel)
set_option maxRecDepth 20000 in
theorem gX2_rateFor_X2_worth : GoodIn wsX2_rateFor (wsV RX2 56 RX2 yX2_worth wsX2_worth) := goodIn_app (goodIn_of _ (by decide +kernel)) ggX2_rateFor_X2_worth
theorem dX2_rateFor_0 : decode cX2_rateFor 0 = .ok (.aload_n 0, 1) := by decide +kernel
theorem dX2_rateFor_1 : decode cX2_rateFor 1 = .ok (.iconst 0, 1) := by decide +kernel
theorem dX2_rateFor_2 : decode cX2_rateFor 2 = .ok (.putfield 43, 3) := by decide +kernel
theorem dX2_rateFor_5 : decode cX2_rateFor 5 = .ok (.aload_n 0, 1) := by decide +kernel
theorem dX2_rateFor_6 : decode cX2_rateFor 6 = .ok (.iload_n 1, 1) := by decide +kernel
theorem dX2_rateFor_7 : decode cX2_rateFor 7 = .ok (.invokevirtual 74, 3) := by decide +kernel
theorem dX2_rateFor_10 : decode cX2_rateFor 10 = .ok (.ifCond .eq 9, 3) := by decide +kernel
theorem dX2_rateFor_13 : decode cX2_rateFor 13 = .ok (.aload_n 0, 1) := by decide +kernel
theorem dX2_rateFor_14 : decode cX2_rateFor 14 = .ok (.iconst 1, 1) := by decide +kernel
theorem dX2_rateFor_15 : decode cX2_rateFor 15 = .ok (.invokevirtual 60, 3) := by decide +kernel
theorem dX2_rateFor_18 : decode cX2_rateFor 18 = .ok (.ireturn, 1) := by decide +kernel
theorem dX2_rateFor_19 : decode cX2_rateFor 19 = .ok (.iload_n 2, 1) := by decide +kernel
theorem dX2_rateFor_20 : decode cX2_rateFor 20 = .ok (.iconst 0, 1) := by decide +kernel
theorem dX2_rateFor_21 : decode cX2_rateFor 21 = .ok (.ldc 87, 2) := by decide +kernel
theorem dX2_rateFor_23 : decode cX2_rateFor 23 = .ok (.invokestatic 50, 3) := by decide +kernel
theorem dX2_rateFor_26 : decode cX2_rateFor 26 = .ok (.ifCond .ne 9, 3) := by decide +kernel
theorem dX2_rateFor_29 : decode cX2_rateFor 29 = .ok (.aload_n 0, 1) := by decide +kernel
theorem dX2_rateFor_30 : decode cX2_rateFor 30 = .ok (.iconst 2, 1) := by decide +kernel
theorem dX2_rateFor_31 : decode cX2_rateFor 31 = .ok (.invokevirtual 60, 3) := by decide +kernel
theorem dX2_rateFor_34 : decode cX2_rateFor 34 = .ok (.ireturn, 1) := by decide +kernel
theorem dX2_rateFor_35 : decode cX2_rateFor 35 = .ok (.iconst 0, 1) := by decide +kernel
theorem dX2_rateFor_36 : decode cX2_rateFor 36 = .ok (.istore_n 3, 1) := by decide +kernel
theorem dX2_rateFor_37 : decode cX2_rateFor 37 = .ok (.sipush 20001, 3) := by decide +kernel
theorem dX2_rateFor_40 : decode cX2_rateFor 40 = .ok (.istore 4, 2) := by decide +kernel
theorem dX2_rateFor_42 : decode cX2_rateFor 42 = .ok (.iload_n 3, 1) := by decide +kernel
theorem dX2_rateFor_43 : decode cX2_rateFor 43 = .ok (.iload 4, 2) := by decide +kernel
theorem dX2_rateFor_45 : decode cX2_rateFor 45 = .ok (.if_icmp .ge 51, 3) := by decide +kernel
theorem dX2_rateFor_48 : decode cX2_rateFor 48 = .ok (.iload_n 3, 1) := by decide +kernel
theorem dX2_rateFor_49 : decode cX2_rateFor 49 = .ok (.iload 4, 2) := by decide +kernel
theorem dX2_rateFor_51 : decode cX2_rateFor 51 = .ok (.iadd, 1) := by decide +kernel
theorem dX2_rateFor_52 : decode cX2_rateFor 52 = .ok (.iconst 2, 1) := by decide +kernel
theorem dX2_rateFor_53 : decode cX2_rateFor 53 = .ok (.idiv, 1) := by decide +kernel
theorem dX2_rateFor_54 : decode cX2_rateFor 54 = .ok (.istore 5, 2) := by decide +kernel
theorem dX2_rateFor_56 : decode cX2_rateFor 56 = .ok (.iload 5, 2) := by decide +kernel
theorem dX2_rateFor_58 : decode cX2_rateFor 58 = .ok (.sipush 20001, 3) := by decide +kernel
theorem dX2_rateFor_61 : decode cX2_rateFor 61 = .ok (.if_icmp .eq 20, 3) := by decide +kernel
theorem dX2_rateFor_64 : decode cX2_rateFor 64 = .ok (.aload_n 0, 1) := by decide +kernel
theorem dX2_rateFor_65 : decode cX2_rateFor 65 = .ok (.iload_n 1, 1) := by decide +kernel
theorem dX2_rateFor_66 : decode cX2_rateFor 66 = .ok (.aload_n 0, 1) := by decide +kernel
theorem dX2_rateFor_67 : decode cX2_rateFor 67 = .ok (.getfield 16, 3) := by decide +kernel
theorem dX2_rateFor_70 : decode cX2_rateFor 70 = .ok (.iload_n 1, 1) := by decide +kernel
theorem dX2_rateFor_71 : decode cX2_rateFor 71 = .ok (.iaload, 1) := by decide +kernel
theorem dX2_rateFor_72 : decode cX2_rateFor 72 = .ok (.iload 5, 2) := by decide +kernel
theorem dX2_rateFor_74 : decode cX2_rateFor 74 = .ok (.invokevirtual 56, 3) := by decide +kernel
theorem dX2_rateFor_77 : decode cX2_rateFor 77 = .ok (.iload_n 2, 1) := by decide +kernel
theorem dX2_rateFor_78 : decode cX2_rateFor 78 = .ok (.if_icmp .gt 10, 3) := by decide +kernel
theorem dX2_rateFor_81 : decode cX2_rateFor 81 = .ok (.iload 5, 2) := by decide +kernel
theorem dX2_rateFor_83 : decode cX2_rateFor 83 = .ok (.istore 4, 2) := by decide +kernel
theorem dX2_rateFor_85 : decode cX2_rateFor 85 = .ok (.goto 8, 3) := by decide +kernel
theorem dX2_rateFor_88 : decode cX2_rateFor 88 = .ok (.iload 5, 2) := by decide +kernel
theorem dX2_rateFor_90 : decode cX2_rateFor 90 = .ok (.iconst 1, 1) := by decide +kernel
theorem dX2_rateFor_91 : decode cX2_rateFor 91 = .ok (.iadd, 1) := by decide +kernel
theorem dX2_rateFor_92 : decode cX2_rateFor 92 = .ok (.istore_n 3, 1) := by decide +kernel
theorem dX2_rateFor_93 : decode cX2_rateFor 93 = .ok (.goto (-51), 3) := by decide +kernel
theorem dX2_rateFor_96 : decode cX2_rateFor 96 = .ok (.iload_n 3, 1) := by decide +kernel
theorem dX2_rateFor_97 : decode cX2_rateFor 97 = .ok (.sipush 20000, 3) := by decide +kernel
theorem dX2_rateFor_100 : decode cX2_rateFor 100 = .ok (.if_icmp .le 7, 3) := by decide +kernel
theorem dX2_rateFor_103 : decode cX2_rateFor 103 = .ok (.iconst (-1), 1) := by decide +kernel
theorem dX2_rateFor_104 : decode cX2_rateFor 104 = .ok (.goto 4, 3) := by decide +kernel
theorem dX2_rateFor_107 : decode cX2_rateFor 107 = .ok (.iload_n 3, 1) := by decide +kernel
theorem dX2_rateFor_108 : decode cX2_rateFor 108 = .ok (.ireturn, 1) := by decide +kernel
set_option maxRecDepth 20000 in
theorem ggX2_saleGain_X2_isNoLease : GoodIn wsX2_saleGain wsX2_isNoLease := goodIn_r _ [8, 9, 10, 11, 7, 12, 17, 18, 19, 20, 21, 22, 23, 24, 25, 26, 27, 28, 29] (by decide +kernel) (by decide +kernel)
set_option maxRecDepth 20000 in
theorem gX2_saleGain_X2_isNoLease : GoodIn wsX2_saleGain (wsV RX2 74 RX2 yX2_isNoLease wsX2_isNoLease) := goodIn_app (goodIn_of _ (by decide +kernel)) ggX2_saleGain_X2_isNoLease
set_option maxRecDepth 20000 in
theorem ggX2_saleGain_X2_fails : GoodIn wsX2_saleGain wsX2_fails := goodIn_r _ [16, 1, 17, 18, 19, 20, 21, 22, 23, 24, 25, 26, 27, 28, 29] (by decide +kernel) (by decide +kernel)
set_option maxRecDepth 20000 in
theorem gX2_saleGain_X2_fails : GoodIn wsX2_saleGain (wsV RX2 60 RX2 yX2_fails wsX2_fails) := goodIn_app (goodIn_of _ (by decide +kernel)) ggX2_saleGain_X2_fails
set_option maxRecDepth 20000 in
theorem ggX2_saleGain_X2_in : GoodIn wsX2_saleGain wsX2_in := goodIn_r _ [12] (by decide +kernel) (by decide +kernel)
set_option maxRecDepth 20000 in
theorem gX2_saleGain_X2_in : GoodIn wsX2_saleGain (va_wsS RX2 50 yX2_in wsX2_in) := goodIn_app (goodIn_of _ (by decide +kernel)) ggX2_saleGain_X2_in
theorem dX2_saleGain_0 : decode cX2_saleGain 0 = .ok (.aload_n 0, 1) := by decide +kernel
theorem dX2_saleGain_1 : decode cX2_saleGain 1 = .ok (.iconst 0, 1) := by decide +kernel
theorem dX2_saleGain_2 : decode cX2_saleGain 2 = .ok (.putfield 43, 3) := by decide +kernel
theorem dX2_saleGain_5 : decode cX2_saleGain 5 = .ok (.aload_n 0, 1) := by decide +kernel
theorem dX2_saleGain_6 : decode cX2_saleGain 6 = .ok (.iload_n 1, 1) := by decide +kernel
theorem dX2_saleGain_7 : decode cX2_saleGain 7 = .ok (.invokevirtual 74, 3) := by decide +kernel
theorem dX2_saleGain_10 : decode cX2_saleGain 10 = .ok (.ifCond .eq 9, 3) := by decide +kernel
theorem dX2_saleGain_13 : decode cX2_saleGain 13 = .ok (.aload_n 0, 1) := by decide +kernel
theorem dX2_saleGain_14 : decode cX2_saleGain 14 = .ok (.iconst 1, 1) := by decide +kernel
theorem dX2_saleGain_15 : decode cX2_saleGain 15 = .ok (.invokevirtual 60, 3) := by decide +kernel
theorem dX2_saleGain_18 : decode cX2_saleGain 18 = .ok (.ireturn, 1) := by decide +kernel
theorem dX2_saleGain_19 : decode cX2_saleGain 19 = .ok (.iload_n 2, 1) := by decide +kernel
theorem dX2_saleGain_20 : decode cX2_saleGain 20 = .ok (.iconst 0, 1) := by decide +kernel
theorem dX2_saleGain_21 : decode cX2_saleGain 21 = .ok (.ldc 87, 2) := by decide +kernel
theorem dX2_saleGain_23 : decode cX2_saleGain 23 = .ok (.invokestatic 50, 3) := by decide +kernel
theorem dX2_saleGain_26 : decode cX2_saleGain 26 = .ok (.ifCond .eq 13, 3) := by decide +kernel
theorem dX2_saleGain_29 : decode cX2_saleGain 29 = .ok (.iload_n 3, 1) := by decide +kernel
theorem dX2_saleGain_30 : decode cX2_saleGain 30 = .ok (.iconst 1, 1) := by decide +kernel
theorem dX2_saleGain_31 : decode cX2_saleGain 31 = .ok (.ldc 87, 2) := by decide +kernel
theorem dX2_saleGain_33 : decode cX2_saleGain 33 = .ok (.invokestatic 50, 3) := by decide +kernel
theorem dX2_saleGain_36 : decode cX2_saleGain 36 = .ok (.ifCond .ne 9, 3) := by decide +kernel
theorem dX2_saleGain_39 : decode cX2_saleGain 39 = .ok (.aload_n 0, 1) := by decide +kernel
theorem dX2_saleGain_40 : decode cX2_saleGain 40 = .ok (.iconst 2, 1) := by decide +kernel
theorem dX2_saleGain_41 : decode cX2_saleGain 41 = .ok (.invokevirtual 60, 3) := by decide +kernel
theorem dX2_saleGain_44 : decode cX2_saleGain 44 = .ok (.ireturn, 1) := by decide +kernel
theorem dX2_saleGain_45 : decode cX2_saleGain 45 = .ok (.aload_n 0, 1) := by decide +kernel
theorem dX2_saleGain_46 : decode cX2_saleGain 46 = .ok (.getfield 25, 3) := by decide +kernel
theorem dX2_saleGain_49 : decode cX2_saleGain 49 = .ok (.iload_n 1, 1) := by decide +kernel
theorem dX2_saleGain_50 : decode cX2_saleGain 50 = .ok (.iaload, 1) := by decide +kernel
theorem dX2_saleGain_51 : decode cX2_saleGain 51 = .ok (.iload_n 3, 1) := by decide +kernel
theorem dX2_saleGain_52 : decode cX2_saleGain 52 = .ok (.if_icmp .lt 7, 3) := by decide +kernel
theorem dX2_saleGain_55 : decode cX2_saleGain 55 = .ok (.iconst 0, 1) := by decide +kernel
theorem dX2_saleGain_56 : decode cX2_saleGain 56 = .ok (.goto 21, 3) := by decide +kernel
theorem dX2_saleGain_59 : decode cX2_saleGain 59 = .ok (.iload_n 3, 1) := by decide +kernel
theorem dX2_saleGain_60 : decode cX2_saleGain 60 = .ok (.iload_n 2, 1) := by decide +kernel
theorem dX2_saleGain_61 : decode cX2_saleGain 61 = .ok (.isub, 1) := by decide +kernel
theorem dX2_saleGain_62 : decode cX2_saleGain 62 = .ok (.i2l, 1) := by decide +kernel
theorem dX2_saleGain_63 : decode cX2_saleGain 63 = .ok (.iload_n 3, 1) := by decide +kernel
theorem dX2_saleGain_64 : decode cX2_saleGain 64 = .ok (.aload_n 0, 1) := by decide +kernel
theorem dX2_saleGain_65 : decode cX2_saleGain 65 = .ok (.getfield 25, 3) := by decide +kernel
theorem dX2_saleGain_68 : decode cX2_saleGain 68 = .ok (.iload_n 1, 1) := by decide +kernel
theorem dX2_saleGain_69 : decode cX2_saleGain 69 = .ok (.iaload, 1) := by decide +kernel
theorem dX2_saleGain_70 : decode cX2_saleGain 70 = .ok (.isub, 1) := by decide +kernel
theorem dX2_saleGain_71 : decode cX2_saleGain 71 = .ok (.i2l, 1) := by decide +kernel
theorem dX2_saleGain_72 : decode cX2_saleGain 72 = .ok (.lmul, 1) := by decide +kernel
theorem dX2_saleGain_73 : decode cX2_saleGain 73 = .ok (.iload_n 3, 1) := by decide +kernel
theorem dX2_saleGain_74 : decode cX2_saleGain 74 = .ok (.i2l, 1) := by decide +kernel
theorem dX2_saleGain_75 : decode cX2_saleGain 75 = .ok (.ldiv, 1) := by decide +kernel
theorem dX2_saleGain_76 : decode cX2_saleGain 76 = .ok (.l2i, 1) := by decide +kernel
theorem dX2_saleGain_77 : decode cX2_saleGain 77 = .ok (.ireturn, 1) := by decide +kernel
theorem dJ9_max_7cf53_0 : decode cJ9_max_7cf53 0 = .ok (.iload_n 0, 1) := by decide +kernel
theorem dJ9_max_7cf53_1 : decode cJ9_max_7cf53 1 = .ok (.iload_n 1, 1) := by decide +kernel
theorem dJ9_max_7cf53_2 : decode cJ9_max_7cf53 2 = .ok (.if_icmp .lt 7, 3) := by decide +kernel
theorem dJ9_max_7cf53_5 : decode cJ9_max_7cf53 5 = .ok (.iload_n 0, 1) := by decide +kernel
theorem dJ9_max_7cf53_6 : decode cJ9_max_7cf53 6 = .ok (.goto 4, 3) := by decide +kernel
theorem dJ9_max_7cf53_9 : decode cJ9_max_7cf53 9 = .ok (.iload_n 1, 1) := by decide +kernel
theorem dJ9_max_7cf53_10 : decode cJ9_max_7cf53 10 = .ok (.ireturn, 1) := by decide +kernel
theorem dJ9_min_7cf53_0 : decode cJ9_min_7cf53 0 = .ok (.iload_n 0, 1) := by decide +kernel
theorem dJ9_min_7cf53_1 : decode cJ9_min_7cf53 1 = .ok (.iload_n 1, 1) := by decide +kernel
theorem dJ9_min_7cf53_2 : decode cJ9_min_7cf53 2 = .ok (.if_icmp .gt 7, 3) := by decide +kernel
theorem dJ9_min_7cf53_5 : decode cJ9_min_7cf53 5 = .ok (.iload_n 0, 1) := by decide +kernel
theorem dJ9_min_7cf53_6 : decode cJ9_min_7cf53 6 = .ok (.goto 4, 3) := by decide +kernel
theorem dJ9_min_7cf53_9 : decode cJ9_min_7cf53 9 = .ok (.iload_n 1, 1) := by decide +kernel
theorem dJ9_min_7cf53_10 : decode cJ9_min_7cf53 10 = .ok (.ireturn, 1) := by decide +kernel
end
section
set_option maxRecDepth 20000 in
theorem ggL_add_X1_add : GoodIn wsL_add wsX1_add := goodIn_ca (goodIn_ca (goodIn_r _ [7, 8, 9, 10, 11, 12, 13, 14, 15, 16, 6, 17, 18, 19, 20, 21, 22, 23, 24, 25, 26, 27, 28, 29, 30, 31, 32, 33, 34, 35, 36, 37, 38, 39, 40, 41, 42, 43, 44, 45, 46, 47, 48, 49, 50, 51, 52, 53, 54, 55, 56, 57, 58, 59, 60, 61, 62, 63, 64, 65] (by decide +kernel) (by decide +kernel)) (goodIn_sub (fun _ h => List.mem_cons_of_mem _ (List.mem_append_left _ (List.mem_append_right _ h))) (by decide +kernel))) (goodIn_sub (fun _ h => List.mem_cons_of_mem _ (List.mem_append_right _ h)) (by decide +kernel))
set_option maxRecDepth 20000 in
theorem gL_add_X1_add : GoodIn wsL_add (wsV RL 7 RX1 yX1_add wsX1_add) := goodIn_app (goodIn_of _ (by decide +kernel)) ggL_add_X1_add
theorem dL_add_0 : decode cL_add 0 = .ok (.aload 8, 2) := by decide +kernel
theorem dL_add_2 : decode cL_add 2 = .ok (.iconst 0, 1) := by decide +kernel
theorem dL_add_3 : decode cL_add 3 = .ok (.aload_n 0, 1) := by decide +kernel
theorem dL_add_4 : decode cL_add 4 = .ok (.iload_n 1, 1) := by decide +kernel
theorem dL_add_5 : decode cL_add 5 = .ok (.iload_n 2, 1) := by decide +kernel
theorem dL_add_6 : decode cL_add 6 = .ok (.iload_n 3, 1) := by decide +kernel
theorem dL_add_7 : decode cL_add 7 = .ok (.iload 4, 2) := by decide +kernel
theorem dL_add_9 : decode cL_add 9 = .ok (.iload 5, 2) := by decide +kernel
theorem dL_add_11 : decode cL_add 11 = .ok (.iload 6, 2) := by decide +kernel
theorem dL_add_13 : decode cL_add 13 = .ok (.iload 7, 2) := by decide +kernel
theorem dL_add_15 : decode cL_add 15 = .ok (.invokevirtual 7, 3) := by decide +kernel
theorem dL_add_18 : decode cL_add 18 = .ok (.i2l, 1) := by decide +kernel
theorem dL_add_19 : decode cL_add 19 = .ok (.lastore, 1) := by decide +kernel
theorem dL_add_20 : decode cL_add 20 = .ok (.goto 11, 3) := by decide +kernel
theorem dL_add_23 : decode cL_add 23 = .ok (.astore 9, 2) := by decide +kernel
theorem dL_add_25 : decode cL_add 25 = .ok (.iconst 1, 1) := by decide +kernel
theorem dL_add_26 : decode cL_add 26 = .ok (.ireturn, 1) := by decide +kernel
theorem dL_add_27 : decode cL_add 27 = .ok (.astore 9, 2) := by decide +kernel
theorem dL_add_29 : decode cL_add 29 = .ok (.iconst 2, 1) := by decide +kernel
theorem dL_add_30 : decode cL_add 30 = .ok (.ireturn, 1) := by decide +kernel
theorem dL_add_31 : decode cL_add 31 = .ok (.iconst 0, 1) := by decide +kernel
theorem dL_add_32 : decode cL_add 32 = .ok (.ireturn, 1) := by decide +kernel
set_option maxRecDepth 20000 in
theorem ggL_pass_X1_pass : GoodIn wsL_pass wsX1_pass := goodIn_ca (goodIn_r _ [6, 7, 8, 9, 5, 10, 11, 12, 13, 14, 15, 16, 17, 18, 19, 20, 21, 22, 23, 24, 25, 26, 27, 28, 29, 30, 31, 32, 33, 34, 35, 36, 37, 38, 39, 40, 41, 42, 43, 44, 45, 46, 47, 48, 49, 50, 51, 52, 53, 54, 55, 56, 57, 58] (by decide +kernel) (by decide +kernel)) (goodIn_sub (fun _ h => List.mem_cons_of_mem _ (List.mem_append_right _ h)) (by decide +kernel))
set_option maxRecDepth 20000 in
theorem gL_pass_X1_pass : GoodIn wsL_pass (wsV RL 17 RX1 yX1_pass wsX1_pass) := goodIn_app (goodIn_of _ (by decide +kernel)) ggL_pass_X1_pass
theorem dL_pass_0 : decode cL_pass 0 = .ok (.aload_n 2, 1) := by decide +kernel
theorem dL_pass_1 : decode cL_pass 1 = .ok (.iconst 0, 1) := by decide +kernel
theorem dL_pass_2 : decode cL_pass 2 = .ok (.aload_n 0, 1) := by decide +kernel
theorem dL_pass_3 : decode cL_pass 3 = .ok (.iload_n 1, 1) := by decide +kernel
theorem dL_pass_4 : decode cL_pass 4 = .ok (.invokevirtual 17, 3) := by decide +kernel
theorem dL_pass_7 : decode cL_pass 7 = .ok (.i2l, 1) := by decide +kernel
theorem dL_pass_8 : decode cL_pass 8 = .ok (.lastore, 1) := by decide +kernel
theorem dL_pass_9 : decode cL_pass 9 = .ok (.goto 6, 3) := by decide +kernel
theorem dL_pass_12 : decode cL_pass 12 = .ok (.astore_n 3, 1) := by decide +kernel
theorem dL_pass_13 : decode cL_pass 13 = .ok (.iconst 1, 1) := by decide +kernel
theorem dL_pass_14 : decode cL_pass 14 = .ok (.ireturn, 1) := by decide +kernel
theorem dL_pass_15 : decode cL_pass 15 = .ok (.iconst 0, 1) := by decide +kernel
theorem dL_pass_16 : decode cL_pass 16 = .ok (.ireturn, 1) := by decide +kernel
set_option maxRecDepth 20000 in
theorem ggL_review_X1_review : GoodIn wsL_review wsX1_review := goodIn_ca (goodIn_ca (goodIn_ca (goodIn_r _ [8, 9, 10, 11, 12, 13, 7, 14, 15, 16, 17, 18, 19, 20, 21, 22, 23, 24, 25, 26, 27, 28, 29, 30, 31, 32, 33, 34, 35, 36, 37, 38, 39, 40, 41, 42, 43, 44, 45, 46, 47, 48, 49, 50, 51, 52, 53, 54, 55, 56, 57, 58, 59, 60, 61, 62, 63, 64, 65, 66, 67, 68, 69, 70, 71, 72, 73, 74, 75, 76, 77, 78, 79, 80, 81, 82, 83] (by decide +kernel) (by decide +kernel)) (goodIn_sub (fun _ h => List.mem_cons_of_mem _ (List.mem_append_left _ (List.mem_append_left _ (List.mem_append_right _ h)))) (by decide +kernel))) (goodIn_sub (fun _ h => List.mem_cons_of_mem _ (List.mem_append_left _ (List.mem_append_right _ h))) (by decide +kernel))) (goodIn_sub (fun _ h => List.mem_cons_of_mem _ (List.mem_append_right _ h)) (by decide +kernel))
set_option maxRecDepth 20000 in
theorem gL_review_X1_review : GoodIn wsL_review (wsV RL 21 RX1 yX1_review wsX1_review) := goodIn_app (goodIn_of _ (by decide +kernel)) ggL_review_X1_review
theorem dL_review_0 : decode cL_review 0 = .ok (.aload_n 3, 1) := by decide +kernel
theorem dL_review_1 : decode cL_review 1 = .ok (.iconst 0, 1) := by decide +kernel
theorem dL_review_2 : decode cL_review 2 = .ok (.aload_n 0, 1) := by decide +kernel
theorem dL_review_3 : decode cL_review 3 = .ok (.iload_n 1, 1) := by decide +kernel
theorem dL_review_4 : decode cL_review 4 = .ok (.iload_n 2, 1) := by decide +kernel
theorem dL_review_5 : decode cL_review 5 = .ok (.invokevirtual 21, 3) := by decide +kernel
theorem dL_review_8 : decode cL_review 8 = .ok (.i2l, 1) := by decide +kernel
theorem dL_review_9 : decode cL_review 9 = .ok (.lastore, 1) := by decide +kernel
theorem dL_review_10 : decode cL_review 10 = .ok (.goto 15, 3) := by decide +kernel
theorem dL_review_13 : decode cL_review 13 = .ok (.astore 4, 2) := by decide +kernel
theorem dL_review_15 : decode cL_review 15 = .ok (.iconst 1, 1) := by decide +kernel
theorem dL_review_16 : decode cL_review 16 = .ok (.ireturn, 1) := by decide +kernel
theorem dL_review_17 : decode cL_review 17 = .ok (.astore 4, 2) := by decide +kernel
theorem dL_review_19 : decode cL_review 19 = .ok (.iconst 2, 1) := by decide +kernel
theorem dL_review_20 : decode cL_review 20 = .ok (.ireturn, 1) := by decide +kernel
theorem dL_review_21 : decode cL_review 21 = .ok (.astore 4, 2) := by decide +kernel
theorem dL_review_23 : decode cL_review 23 = .ok (.iconst 3, 1) := by decide +kernel
theorem dL_review_24 : decode cL_review 24 = .ok (.ireturn, 1) := by decide +kernel
theorem dL_review_25 : decode cL_review 25 = .ok (.iconst 0, 1) := by decide +kernel
theorem dL_review_26 : decode cL_review 26 = .ok (.ireturn, 1) := by decide +kernel
set_option maxRecDepth 20000 in
theorem ggL_lengthen_X1_lengthen : GoodIn wsL_lengthen wsX1_lengthen := goodIn_ca (goodIn_ca (goodIn_ca (goodIn_r _ [8, 9, 10, 11, 12, 13, 7, 14, 15, 16, 17, 18, 19, 20, 21, 22, 23, 24, 25, 26, 27, 28, 29, 30, 31, 32, 33, 34, 35, 36, 37, 38, 39, 40, 41, 42, 43, 44, 45, 46, 47, 48, 49, 50, 51, 52, 53, 54, 55, 56, 57, 58, 59, 60, 61, 62, 63, 64, 65, 66, 67, 68, 69, 70, 71, 72, 73, 74, 75, 76, 77, 78, 79] (by decide +kernel) (by decide +kernel)) (goodIn_sub (fun _ h => List.mem_cons_of_mem _ (List.mem_append_left _ (List.mem_append_left _ (List.mem_append_right _ h)))) (by decide +kernel))) (goodIn_sub (fun _ h => List.mem_cons_of_mem _ (List.mem_append_left _ (List.mem_append_right _ h))) (by decide +kernel))) (goodIn_sub (fun _ h => List.mem_cons_of_mem _ (List.mem_append_right _ h)) (by decide +kernel))
set_option maxRecDepth 20000 in
theorem gL_lengthen_X1_lengthen : GoodIn wsL_lengthen (wsV RL 27 RX1 yX1_lengthen wsX1_lengthen) := goodIn_app (goodIn_of _ (by decide +kernel)) ggL_lengthen_X1_lengthen
theorem dL_lengthen_0 : decode cL_lengthen 0 = .ok (.aload 4, 2) := by decide +kernel
theorem dL_lengthen_2 : decode cL_lengthen 2 = .ok (.iconst 0, 1) := by decide +kernel
theorem dL_lengthen_3 : decode cL_lengthen 3 = .ok (.aload_n 0, 1) := by decide +kernel
theorem dL_lengthen_4 : decode cL_lengthen 4 = .ok (.iload_n 1, 1) := by decide +kernel
theorem dL_lengthen_5 : decode cL_lengthen 5 = .ok (.iload_n 2, 1) := by decide +kernel
theorem dL_lengthen_6 : decode cL_lengthen 6 = .ok (.iload_n 3, 1) := by decide +kernel
theorem dL_lengthen_7 : decode cL_lengthen 7 = .ok (.invokevirtual 27, 3) := by decide +kernel
theorem dL_lengthen_10 : decode cL_lengthen 10 = .ok (.i2l, 1) := by decide +kernel
theorem dL_lengthen_11 : decode cL_lengthen 11 = .ok (.lastore, 1) := by decide +kernel
theorem dL_lengthen_12 : decode cL_lengthen 12 = .ok (.goto 15, 3) := by decide +kernel
theorem dL_lengthen_15 : decode cL_lengthen 15 = .ok (.astore 5, 2) := by decide +kernel
theorem dL_lengthen_17 : decode cL_lengthen 17 = .ok (.iconst 1, 1) := by decide +kernel
theorem dL_lengthen_18 : decode cL_lengthen 18 = .ok (.ireturn, 1) := by decide +kernel
theorem dL_lengthen_19 : decode cL_lengthen 19 = .ok (.astore 5, 2) := by decide +kernel
theorem dL_lengthen_21 : decode cL_lengthen 21 = .ok (.iconst 2, 1) := by decide +kernel
theorem dL_lengthen_22 : decode cL_lengthen 22 = .ok (.ireturn, 1) := by decide +kernel
theorem dL_lengthen_23 : decode cL_lengthen 23 = .ok (.astore 5, 2) := by decide +kernel
theorem dL_lengthen_25 : decode cL_lengthen 25 = .ok (.iconst 3, 1) := by decide +kernel
theorem dL_lengthen_26 : decode cL_lengthen 26 = .ok (.ireturn, 1) := by decide +kernel
theorem dL_lengthen_27 : decode cL_lengthen 27 = .ok (.iconst 0, 1) := by decide +kernel
theorem dL_lengthen_28 : decode cL_lengthen 28 = .ok (.ireturn, 1) := by decide +kernel
set_option maxRecDepth 20000 in
theorem ggL_shorten_X1_shorten : GoodIn wsL_shorten wsX1_shorten := goodIn_ca (goodIn_ca (goodIn_ca (goodIn_r _ [8, 9, 10, 11, 12, 13, 7, 14, 15, 16, 17, 18, 19, 20, 21, 22, 23, 24, 25, 26, 27, 28, 29, 30, 31, 32, 33, 34, 35, 36, 37, 38, 39, 40, 41, 42, 43, 44, 45, 46, 47, 48, 49, 50, 51, 52, 53, 54, 55, 56, 57, 58, 59, 60, 61, 62, 63, 64, 65, 66, 67, 68] (by decide +kernel) (by decide +kernel)) (goodIn_sub (fun _ h => List.mem_cons_of_mem _ (List.mem_append_left _ (List.mem_append_left _ (List.mem_append_right _ h)))) (by decide +kernel))) (goodIn_sub (fun _ h => List.mem_cons_of_mem _ (List.mem_append_left _ (List.mem_append_right _ h))) (by decide +kernel))) (goodIn_sub (fun _ h => List.mem_cons_of_mem _ (List.mem_append_right _ h)) (by decide +kernel))
set_option maxRecDepth 20000 in
theorem gL_shorten_X1_shorten : GoodIn wsL_shorten (wsV RL 31 RX1 yX1_shorten wsX1_shorten) := goodIn_app (goodIn_of _ (by decide +kernel)) ggL_shorten_X1_shorten
theorem dL_shorten_0 : decode cL_shorten 0 = .ok (.aload_n 3, 1) := by decide +kernel
theorem dL_shorten_1 : decode cL_shorten 1 = .ok (.iconst 0, 1) := by decide +kernel
theorem dL_shorten_2 : decode cL_shorten 2 = .ok (.aload_n 0, 1) := by decide +kernel
theorem dL_shorten_3 : decode cL_shorten 3 = .ok (.iload_n 1, 1) := by decide +kernel
theorem dL_shorten_4 : decode cL_shorten 4 = .ok (.iload_n 2, 1) := by decide +kernel
theorem dL_shorten_5 : decode cL_shorten 5 = .ok (.invokevirtual 31, 3) := by decide +kernel
theorem dL_shorten_8 : decode cL_shorten 8 = .ok (.i2l, 1) := by decide +kernel
theorem dL_shorten_9 : decode cL_shorten 9 = .ok (.lastore, 1) := by decide +kernel
theorem dL_shorten_10 : decode cL_shorten 10 = .ok (.goto 15, 3) := by decide +kernel
theorem dL_shorten_13 : decode cL_shorten 13 = .ok (.astore 4, 2) := by decide +kernel
theorem dL_shorten_15 : decode cL_shorten 15 = .ok (.iconst 1, 1) := by decide +kernel
theorem dL_shorten_16 : decode cL_shorten 16 = .ok (.ireturn, 1) := by decide +kernel
theorem dL_shorten_17 : decode cL_shorten 17 = .ok (.astore 4, 2) := by decide +kernel
theorem dL_shorten_19 : decode cL_shorten 19 = .ok (.iconst 2, 1) := by decide +kernel
theorem dL_shorten_20 : decode cL_shorten 20 = .ok (.ireturn, 1) := by decide +kernel
theorem dL_shorten_21 : decode cL_shorten 21 = .ok (.astore 4, 2) := by decide +kernel
theorem dL_shorten_23 : decode cL_shorten 23 = .ok (.iconst 3, 1) := by decide +kernel
theorem dL_shorten_24 : decode cL_shorten 24 = .ok (.ireturn, 1) := by decide +kernel
theorem dL_shorten_25 : decode cL_shorten 25 = .ok (.iconst 0, 1) := by decide +kernel
theorem dL_shorten_26 : decode cL_shorten 26 = .ok (.ireturn, 1) := by decide +kernel
set_option maxRecDepth 20000 in
theorem ggL_cut_X1_cut : GoodIn wsL_cut wsX1_cut := goodIn_ca (goodIn_ca (goodIn_ca (goodIn_r _ [8, 9, 10, 11, 7, 12, 13, 14, 15, 16, 17, 18, 19, 20, 21, 22, 23, 24, 25, 26, 27, 28, 29, 30, 31, 32, 33, 34, 35, 36, 37, 38, 39, 40, 41, 42, 43, 44, 45, 46, 47, 48, 49, 50, 51, 52, 53, 54, 55, 56, 57, 58, 59, 60, 61, 62, 63, 64, 65, 66, 67, 68, 69, 70, 71, 72, 73, 74, 75, 76, 77, 78] (by decide +kernel) (by decide +kernel)) (goodIn_sub (fun _ h => List.mem_cons_of_mem _ (List.mem_append_left _ (List.mem_append_left _ (List.mem_append_right _ h)))) (by decide +kernel))) (goodIn_sub (fun _ h => List.mem_cons_of_mem _ (List.mem_append_left _ (List.mem_append_right _ h))) (by decide +kernel))) (goodIn_sub (fun _ h => List.mem_cons_of_mem _ (List.mem_append_right _ h)) (by decide +kernel))
set_option maxRecDepth 20000 in
theorem gL_cut_X1_cut : GoodIn wsL_cut (wsV RL 34 RX1 yX1_cut wsX1_cut) := goodIn_app (goodIn_of _ (by decide +kernel)) ggL_cut_X1_cut
theorem dL_cut_0 : decode cL_cut 0 = .ok (.aload_n 3, 1) := by decide +kernel
theorem dL_cut_1 : decode cL_cut 1 = .ok (.iconst 0, 1) := by decide +kernel
theorem dL_cut_2 : decode cL_cut 2 = .ok (.aload_n 0, 1) := by decide +kernel
theorem dL_cut_3 : decode cL_cut 3 = .ok (.iload_n 1, 1) := by decide +kernel
theorem dL_cut_4 : decode cL_cut 4 = .ok (.iload_n 2, 1) := by decide +kernel
theorem dL_cut_5 : decode cL_cut 5 = .ok (.invokevirtual 34, 3) := by decide +kernel
theorem dL_cut_8 : decode cL_cut 8 = .ok (.i2l, 1) := by decide +kernel
theorem dL_cut_9 : decode cL_cut 9 = .ok (.lastore, 1) := by decide +kernel
theorem dL_cut_10 : decode cL_cut 10 = .ok (.goto 15, 3) := by decide +kernel
theorem dL_cut_13 : decode cL_cut 13 = .ok (.astore 4, 2) := by decide +kernel
theorem dL_cut_15 : decode cL_cut 15 = .ok (.iconst 1, 1) := by decide +kernel
theorem dL_cut_16 : decode cL_cut 16 = .ok (.ireturn, 1) := by decide +kernel
theorem dL_cut_17 : decode cL_cut 17 = .ok (.astore 4, 2) := by decide +kernel
theorem dL_cut_19 : decode cL_cut 19 = .ok (.iconst 2, 1) := by decide +kernel
theorem dL_cut_20 : decode cL_cut 20 = .ok (.ireturn, 1) := by decide +kernel
theorem dL_cut_21 : decode cL_cut 21 = .ok (.astore 4, 2) := by decide +kernel
theorem dL_cut_23 : decode cL_cut 23 = .ok (.iconst 3, 1) := by decide +kernel
theorem dL_cut_24 : decode cL_cut 24 = .ok (.ireturn, 1) := by decide +kernel
theorem dL_cut_25 : decode cL_cut 25 = .ok (.iconst 0, 1) := by decide +kernel
theorem dL_cut_26 : decode cL_cut 26 = .ok (.ireturn, 1) := by decide +kernel
set_option maxRecDepth 20000 in
theorem ggL_toCome_X1_toCome : GoodIn wsL_toCome wsX1_toCome := goodIn_ca (goodIn_r _ [6, 7, 8, 9, 5, 10, 11, 12, 13, 14, 15, 16, 17, 18, 19, 20, 21, 22, 23, 24, 25, 26, 27, 28, 29, 30, 31, 32, 33] (by decide +kernel) (by decide +kernel)) (goodIn_sub (fun _ h => List.mem_cons_of_mem _ (List.mem_append_right _ h)) (by decide +kernel))
set_option maxRecDepth 20000 in
theorem gL_toCome_X1_toCome : GoodIn wsL_toCome (wsV RL 37 RX1 yX1_toCome wsX1_toCome) := goodIn_app (goodIn_of _ (by decide +kernel)) ggL_toCome_X1_toCome
theorem dL_toCome_0 : decode cL_toCome 0 = .ok (.aload_n 2, 1) := by decide +kernel
theorem dL_toCome_1 : decode cL_toCome 1 = .ok (.iconst 0, 1) := by decide +kernel
theorem dL_toCome_2 : decode cL_toCome 2 = .ok (.aload_n 0, 1) := by decide +kernel
theorem dL_toCome_3 : decode cL_toCome 3 = .ok (.iload_n 1, 1) := by decide +kernel
theorem dL_toCome_4 : decode cL_toCome 4 = .ok (.invokevirtual 37, 3) := by decide +kernel
theorem dL_toCome_7 : decode cL_toCome 7 = .ok (.i2l, 1) := by decide +kernel
theorem dL_toCome_8 : decode cL_toCome 8 = .ok (.lastore, 1) := by decide +kernel
theorem dL_toCome_9 : decode cL_toCome 9 = .ok (.goto 6, 3) := by decide +kernel
theorem dL_toCome_12 : decode cL_toCome 12 = .ok (.astore_n 3, 1) := by decide +kernel
theorem dL_toCome_13 : decode cL_toCome 13 = .ok (.iconst 1, 1) := by decide +kernel
theorem dL_toCome_14 : decode cL_toCome 14 = .ok (.ireturn, 1) := by decide +kernel
theorem dL_toCome_15 : decode cL_toCome 15 = .ok (.iconst 0, 1) := by decide +kernel
theorem dL_toCome_16 : decode cL_toCome 16 = .ok (.ireturn, 1) := by decide +kernel
set_option maxRecDepth 20000 in
theorem ggL_payment_X1_payment : GoodIn wsL_payment wsX1_payment := goodIn_ca (goodIn_r _ [6, 7, 8, 9, 10, 11, 5, 12, 13, 14, 15, 16, 17, 18, 19, 20, 21, 22, 23, 24, 25, 26, 27, 28, 29, 30, 31, 32, 33, 34, 35, 36, 37, 38] (by decide +kernel) (by decide +kernel)) (goodIn_sub (fun _ h => List.mem_cons_of_mem _ (List.mem_append_right _ h)) (by decide +kernel))
set_option maxRecDepth 20000 in
theorem gL_payment_X1_payment : GoodIn wsL_payment (wsV RL 40 RX1 yX1_payment wsX1_payment) := goodIn_app (goodIn_of _ (by decide +kernel)) ggL_payment_X1_payment
theorem dL_payment_0 : decode cL_payment 0 = .ok (.aload_n 3, 1) := by decide +kernel
theorem dL_payment_1 : decode cL_payment 1 = .ok (.iconst 0, 1) := by decide +kernel
theorem dL_payment_2 : decode cL_payment 2 = .ok (.aload_n 0, 1) := by decide +kernel
theorem dL_payment_3 : decode cL_payment 3 = .ok (.iload_n 1, 1) := by decide +kernel
theorem dL_payment_4 : decode cL_payment 4 = .ok (.iload_n 2, 1) := by decide +kernel
theorem dL_payment_5 : decode cL_payment 5 = .ok (.invokevirtual 40, 3) := by decide +kernel
theorem dL_payment_8 : decode cL_payment 8 = .ok (.i2l, 1) := by decide +kernel
theorem dL_payment_9 : decode cL_payment 9 = .ok (.lastore, 1) := by decide +kernel
theorem dL_payment_10 : decode cL_payment 10 = .ok (.goto 7, 3) := by decide +kernel
theorem dL_payment_13 : decode cL_payment 13 = .ok (.astore 4, 2) := by decide +kernel
theorem dL_payment_15 : decode cL_payment 15 = .ok (.iconst 1, 1) := by decide +kernel
theorem dL_payment_16 : decode cL_payment 16 = .ok (.ireturn, 1) := by decide +kernel
theorem dL_payment_17 : decode cL_payment 17 = .ok (.iconst 0, 1) := by decide +kernel
theorem dL_payment_18 : decode cL_payment 18 = .ok (.ireturn, 1) := by decide +kernel
set_option maxRecDepth 20000 in
theorem ggL_debt_X1_debt : GoodIn wsL_debt wsX1_debt := goodIn_ca (goodIn_r _ [6, 7, 8, 9, 5, 10, 11, 12, 13, 14, 15, 16, 17, 18, 19, 20, 21, 22, 23, 24, 25, 26, 27, 28, 29, 30, 31, 32, 33] (by decide +kernel) (by decide +kernel)) (goodIn_sub (fun _ h => List.mem_cons_of_mem _ (List.mem_append_right _ h)) (by decide +kernel))
set_option maxRecDepth 20000 in
theorem gL_debt_X1_debt : GoodIn wsL_debt (wsV RL 43 RX1 yX1_debt wsX1_debt) := goodIn_app (goodIn_of _ (by decide +kernel)) ggL_debt_X1_debt
theorem dL_debt_0 : decode cL_debt 0 = .ok (.aload_n 2, 1) := by decide +kernel
theorem dL_debt_1 : decode cL_debt 1 = .ok (.iconst 0, 1) := by decide +kernel
theorem dL_debt_2 : decode cL_debt 2 = .ok (.aload_n 0, 1) := by decide +kernel
theorem dL_debt_3 : decode cL_debt 3 = .ok (.iload_n 1, 1) := by decide +kernel
theorem dL_debt_4 : decode cL_debt 4 = .ok (.invokevirtual 43, 3) := by decide +kernel
theorem dL_debt_7 : decode cL_debt 7 = .ok (.i2l, 1) := by decide +kernel
theorem dL_debt_8 : decode cL_debt 8 = .ok (.lastore, 1) := by decide +kernel
theorem dL_debt_9 : decode cL_debt 9 = .ok (.goto 6, 3) := by decide +kernel
theorem dL_debt_12 : decode cL_debt 12 = .ok (.astore_n 3, 1) := by decide +kernel
theorem dL_debt_13 : decode cL_debt 13 = .ok (.iconst 1, 1) := by decide +kernel
theorem dL_debt_14 : decode cL_debt 14 = .ok (.ireturn, 1) := by decide +kernel
theorem dL_debt_15 : decode cL_debt 15 = .ok (.iconst 0, 1) := by decide +kernel
theorem dL_debt_16 : decode cL_debt 16 = .ok (.ireturn, 1) := by decide +kernel
set_option maxRecDepth 20000 in
theorem ggL_debtByWorth_X1_debtByWorth : GoodIn wsL_debtByWorth wsX1_debtByWorth := goodIn_ca (goodIn_r _ [6, 7, 8, 9, 5, 10, 11, 12, 13, 14, 15, 16, 17, 18, 19, 20, 21, 22, 23, 24, 25, 26, 27, 28, 29, 30, 31, 32, 33, 34, 35, 36, 37, 38] (by decide +kernel) (by decide +kernel)) (goodIn_sub (fun _ h => List.mem_cons_of_mem _ (List.mem_append_right _ h)) (by decide +kernel))
set_option maxRecDepth 20000 in
theorem gL_debtByWorth_X1_debtByWorth : GoodIn wsL_debtByWorth (wsV RL 46 RX1 yX1_debtByWorth wsX1_debtByWorth) := goodIn_app (goodIn_of _ (by decide +kernel)) ggL_debtByWorth_X1_debtByWorth
theorem dL_debtByWorth_0 : decode cL_debtByWorth 0 = .ok (.aload_n 2, 1) := by decide +kernel
theorem dL_debtByWorth_1 : decode cL_debtByWorth 1 = .ok (.iconst 0, 1) := by decide +kernel
theorem dL_debtByWorth_2 : decode cL_debtByWorth 2 = .ok (.aload_n 0, 1) := by decide +kernel
theorem dL_debtByWorth_3 : decode cL_debtByWorth 3 = .ok (.iload_n 1, 1) := by decide +kernel
theorem dL_debtByWorth_4 : decode cL_debtByWorth 4 = .ok (.invokevirtual 46, 3) := by decide +kernel
theorem dL_debtByWorth_7 : decode cL_debtByWorth 7 = .ok (.i2l, 1) := by decide +kernel
theorem dL_debtByWorth_8 : decode cL_debtByWorth 8 = .ok (.lastore, 1) := by decide +kernel
theorem dL_debtByWorth_9 : decode cL_debtByWorth 9 = .ok (.goto 6, 3) := by decide +kernel
theorem dL_debtByWorth_12 : decode cL_debtByWorth 12 = .ok (.astore_n 3, 1) := by decide +kernel
theorem dL_debtByWorth_13 : decode cL_debtByWorth 13 = .ok (.iconst 1, 1) := by decide +kernel
theorem dL_debtByWorth_14 : decode cL_debtByWorth 14 = .ok (.ireturn, 1) := by decide +kernel
theorem dL_debtByWorth_15 : decode cL_debtByWorth 15 = .ok (.iconst 0, 1) := by decide +kernel
theorem dL_debtByWorth_16 : decode cL_debtByWorth 16 = .ok (.ireturn, 1) := by decide +kernel
set_option maxRecDepth 20000 in
theorem ggL_right_X1_right : GoodIn wsL_right wsX1_right := goodIn_ca (goodIn_r _ [6, 7, 8, 9, 5, 10, 11, 12, 13, 14, 15, 16, 17, 18, 19, 20, 21, 22, 23, 24, 25, 26] (by decide +kernel) (by decide +kernel)) (goodIn_sub (fun _ h => List.mem_cons_of_mem _ (List.mem_append_right _ h)) (by decide +kernel))
set_option maxRecDepth 20000 in
theorem gL_right_X1_right : GoodIn wsL_right (wsV RL 49 RX1 yX1_right wsX1_right) := goodIn_app (goodIn_of _ (by decide +kernel)) ggL_right_X1_right
theorem dL_right_0 : decode cL_right 0 = .ok (.aload_n 2, 1) := by decide +kernel
theorem dL_right_1 : decode cL_right 1 = .ok (.iconst 0, 1) := by decide +kernel
theorem dL_right_2 : decode cL_right 2 = .ok (.aload_n 0, 1) := by decide +kernel
theorem dL_right_3 : decode cL_right 3 = .ok (.iload_n 1, 1) := by decide +kernel
theorem dL_right_4 : decode cL_right 4 = .ok (.invokevirtual 49, 3) := by decide +kernel
theorem dL_right_7 : decode cL_right 7 = .ok (.i2l, 1) := by decide +kernel
theorem dL_right_8 : decode cL_right 8 = .ok (.lastore, 1) := by decide +kernel
theorem dL_right_9 : decode cL_right 9 = .ok (.goto 6, 3) := by decide +kernel
theorem dL_right_12 : decode cL_right 12 = .ok (.astore_n 3, 1) := by decide +kernel
theorem dL_right_13 : decode cL_right 13 = .ok (.iconst 1, 1) := by decide +kernel
theorem dL_right_14 : decode cL_right 14 = .ok (.ireturn, 1) := by decide +kernel
theorem dL_right_15 : decode cL_right 15 = .ok (.iconst 0, 1) := by decide +kernel
theorem dL_right_16 : decode cL_right 16 = .ok (.ireturn, 1) := by decide +kernel
set_option maxRecDepth 20000 in
theorem ggL_interest_X1_interest : GoodIn wsL_interest wsX1_interest := goodIn_ca (goodIn_r _ [6, 7, 8, 9, 5, 10, 11, 12, 13, 14, 15, 16, 17, 18, 19, 20, 21, 22, 23, 24, 25, 26] (by decide +kernel) (by decide +kernel)) (goodIn_sub (fun _ h => List.mem_cons_of_mem _ (List.mem_append_right _ h)) (by decide +kernel))
set_option maxRecDepth 20000 in
theorem gL_interest_X1_interest : GoodIn wsL_interest (wsV RL 52 RX1 yX1_interest wsX1_interest) := goodIn_app (goodIn_of _ (by decide +kernel)) ggL_interest_X1_interest
theorem dL_interest_0 : decode cL_interest 0 = .ok (.aload_n 2, 1) := by decide +kernel
theorem dL_interest_1 : decode cL_interest 1 = .ok (.iconst 0, 1) := by decide +kernel
theorem dL_interest_2 : decode cL_interest 2 = .ok (.aload_n 0, 1) := by decide +kernel
theorem dL_interest_3 : decode cL_interest 3 = .ok (.iload_n 1, 1) := by decide +kernel
theorem dL_interest_4 : decode cL_interest 4 = .ok (.invokevirtual 52, 3) := by decide +kernel
theorem dL_interest_7 : decode cL_interest 7 = .ok (.i2l, 1) := by decide +kernel
theorem dL_interest_8 : decode cL_interest 8 = .ok (.lastore, 1) := by decide +kernel
theorem dL_interest_9 : decode cL_interest 9 = .ok (.goto 6, 3) := by decide +kernel
theorem dL_interest_12 : decode cL_interest 12 = .ok (.astore_n 3, 1) := by decide +kernel
theorem dL_interest_13 : decode cL_interest 13 = .ok (.iconst 1, 1) := by decide +kernel
theorem dL_interest_14 : decode cL_interest 14 = .ok (.ireturn, 1) := by decide +kernel
theorem dL_interest_15 : decode cL_interest 15 = .ok (.iconst 0, 1) := by decide +kernel
theorem dL_interest_16 : decode cL_interest 16 = .ok (.ireturn, 1) := by decide +kernel
set_option maxRecDepth 20000 in
theorem ggL_written_X1_written : GoodIn wsL_written wsX1_written := goodIn_ca (goodIn_r _ [6, 7, 8, 9, 5, 10, 11, 12, 13, 14, 15, 16, 17, 18, 19, 20, 21, 22, 23, 24, 25, 26] (by decide +kernel) (by decide +kernel)) (goodIn_sub (fun _ h => List.mem_cons_of_mem _ (List.mem_append_right _ h)) (by decide +kernel))
set_option maxRecDepth 20000 in
theorem gL_written_X1_written : GoodIn wsL_written (wsV RL 55 RX1 yX1_written wsX1_written) := goodIn_app (goodIn_of _ (by decide +kernel)) ggL_written_X1_written
theorem dL_written_0 : decode cL_written 0 = .ok (.aload_n 2, 1) := by decide +kernel
theorem dL_written_1 : decode cL_written 1 = .ok (.iconst 0, 1) := by decide +kernel
theorem dL_written_2 : decode cL_written 2 = .ok (.aload_n 0, 1) := by decide +kernel
theorem dL_written_3 : decode cL_written 3 = .ok (.iload_n 1, 1) := by decide +kernel
theorem dL_written_4 : decode cL_written 4 = .ok (.invokevirtual 55, 3) := by decide +kernel
theorem dL_written_7 : decode cL_written 7 = .ok (.i2l, 1) := by decide +kernel
theorem dL_written_8 : decode cL_written 8 = .ok (.lastore, 1) := by decide +kernel
theorem dL_written_9 : decode cL_written 9 = .ok (.goto 6, 3) := by decide +kernel
theorem dL_written_12 : decode cL_written 12 = .ok (.astore_n 3, 1) := by decide +kernel
theorem dL_written_13 : decode cL_written 13 = .ok (.iconst 1, 1) := by decide +kernel
theorem dL_written_14 : decode cL_written 14 = .ok (.ireturn, 1) := by decide +kernel
theorem dL_written_15 : decode cL_written 15 = .ok (.iconst 0, 1) := by decide +kernel
theorem dL_written_16 : decode cL_written 16 = .ok (.ireturn, 1) := by decide +kernel
set_option maxRecDepth 20000 in
theorem ggL_paid_X1_paid : GoodIn wsL_paid wsX1_paid := goodIn_ca (goodIn_r _ [6, 7, 8, 9, 5, 10, 11, 12, 13, 14, 15, 16, 17, 18, 19, 20, 21, 22, 23, 24, 25, 26] (by decide +kernel) (by decide +kernel)) (goodIn_sub (fun _ h => List.mem_cons_of_mem _ (List.mem_append_right _ h)) (by decide +kernel))
set_option maxRecDepth 20000 in
theorem gL_paid_X1_paid : GoodIn wsL_paid (wsV RL 58 RX1 yX1_paid wsX1_paid) := goodIn_app (goodIn_of _ (by decide +kernel)) ggL_paid_X1_paid
theorem dL_paid_0 : decode cL_paid 0 = .ok (.aload_n 2, 1) := by decide +kernel
theorem dL_paid_1 : decode cL_paid 1 = .ok (.iconst 0, 1) := by decide +kernel
theorem dL_paid_2 : decode cL_paid 2 = .ok (.aload_n 0, 1) := by decide +kernel
theorem dL_paid_3 : decode cL_paid 3 = .ok (.iload_n 1, 1) := by decide +kernel
theorem dL_paid_4 : decode cL_paid 4 = .ok (.invokevirtual 58, 3) := by decide +kernel
theorem dL_paid_7 : decode cL_paid 7 = .ok (.i2l, 1) := by decide +kernel
theorem dL_paid_8 : decode cL_paid 8 = .ok (.lastore, 1) := by decide +kernel
theorem dL_paid_9 : decode cL_paid 9 = .ok (.goto 6, 3) := by decide +kernel
theorem dL_paid_12 : decode cL_paid 12 = .ok (.astore_n 3, 1) := by decide +kernel
theorem dL_paid_13 : decode cL_paid 13 = .ok (.iconst 1, 1) := by decide +kernel
theorem dL_paid_14 : decode cL_paid 14 = .ok (.ireturn, 1) := by decide +kernel
theorem dL_paid_15 : decode cL_paid 15 = .ok (.iconst 0, 1) := by decide +kernel
theorem dL_paid_16 : decode cL_paid 16 = .ok (.ireturn, 1) := by decide +kernel
set_option maxRecDepth 20000 in
theorem ggL_gains_X1_gains : GoodIn wsL_gains wsX1_gains := goodIn_ca (goodIn_r _ [6, 7, 8, 9, 5, 10, 11, 12, 13, 14, 15, 16, 17, 18, 19, 20, 21, 22, 23, 24, 25, 26] (by decide +kernel) (by decide +kernel)) (goodIn_sub (fun _ h => List.mem_cons_of_mem _ (List.mem_append_right _ h)) (by decide +kernel))
set_option maxRecDepth 20000 in
theorem gL_gains_X1_gains : GoodIn wsL_gains (wsV RL 61 RX1 yX1_gains wsX1_gains) := goodIn_app (goodIn_of _ (by decide +kernel)) ggL_gains_X1_gains
theorem dL_gains_0 : decode cL_gains 0 = .ok (.aload_n 2, 1) := by decide +kernel
theorem dL_gains_1 : decode cL_gains 1 = .ok (.iconst 0, 1) := by decide +kernel
theorem dL_gains_2 : decode cL_gains 2 = .ok (.aload_n 0, 1) := by decide +kernel
theorem dL_gains_3 : decode cL_gains 3 = .ok (.iload_n 1, 1) := by decide +kernel
theorem dL_gains_4 : decode cL_gains 4 = .ok (.invokevirtual 61, 3) := by decide +kernel
theorem dL_gains_7 : decode cL_gains 7 = .ok (.i2l, 1) := by decide +kernel
theorem dL_gains_8 : decode cL_gains 8 = .ok (.lastore, 1) := by decide +kernel
theorem dL_gains_9 : decode cL_gains 9 = .ok (.goto 6, 3) := by decide +kernel
theorem dL_gains_12 : decode cL_gains 12 = .ok (.astore_n 3, 1) := by decide +kernel
theorem dL_gains_13 : decode cL_gains 13 = .ok (.iconst 1, 1) := by decide +kernel
theorem dL_gains_14 : decode cL_gains 14 = .ok (.ireturn, 1) := by decide +kernel
theorem dL_gains_15 : decode cL_gains 15 = .ok (.iconst 0, 1) := by decide +kernel
theorem dL_gains_16 : decode cL_gains 16 = .ok (.ireturn, 1) := by decide +kernel
set_option maxRecDepth 20000 in
theorem ggL_rateFor_X1_rateFor : GoodIn wsL_rateFor wsX1_rateFor := goodIn_ca (goodIn_ca (goodIn_r _ [7, 8, 9, 10, 11, 6, 12, 13, 14, 15, 16, 17, 18, 19, 20, 21, 22, 23, 24, 25, 26, 27, 28, 29, 30, 31, 32, 33, 34, 35, 36, 37, 38, 39, 40, 41, 42, 43, 44, 45] (by decide +kernel) (by decide +kernel)) (goodIn_sub (fun _ h => List.mem_cons_of_mem _ (List.mem_append_left _ (List.mem_append_right _ h))) (by decide +kernel))) (goodIn_sub (fun _ h => List.mem_cons_of_mem _ (List.mem_append_right _ h)) (by decide +kernel))
set_option maxRecDepth 20000 in
theorem gL_rateFor_X1_rateFor : GoodIn wsL_rateFor (wsV RL 64 RX1 yX1_rateFor wsX1_rateFor) := goodIn_app (goodIn_of _ (by decide +kernel)) ggL_rateFor_X1_rateFor
theorem dL_rateFor_0 : decode cL_rateFor 0 = .ok (.aload_n 3, 1) := by decide +kernel
theorem dL_rateFor_1 : decode cL_rateFor 1 = .ok (.iconst 0, 1) := by decide +kernel
theorem dL_rateFor_2 : decode cL_rateFor 2 = .ok (.aload_n 0, 1) := by decide +kernel
theorem dL_rateFor_3 : decode cL_rateFor 3 = .ok (.iload_n 1, 1) := by decide +kernel
theorem dL_rateFor_4 : decode cL_rateFor 4 = .ok (.iload_n 2, 1) := by decide +kernel
theorem dL_rateFor_5 : decode cL_rateFor 5 = .ok (.invokevirtual 64, 3) := by decide +kernel
theorem dL_rateFor_8 : decode cL_rateFor 8 = .ok (.i2l, 1) := by decide +kernel
theorem dL_rateFor_9 : decode cL_rateFor 9 = .ok (.lastore, 1) := by decide +kernel
theorem dL_rateFor_10 : decode cL_rateFor 10 = .ok (.goto 11, 3) := by decide +kernel
theorem dL_rateFor_13 : decode cL_rateFor 13 = .ok (.astore 4, 2) := by decide +kernel
theorem dL_rateFor_15 : decode cL_rateFor 15 = .ok (.iconst 1, 1) := by decide +kernel
theorem dL_rateFor_16 : decode cL_rateFor 16 = .ok (.ireturn, 1) := by decide +kernel
theorem dL_rateFor_17 : decode cL_rateFor 17 = .ok (.astore 4, 2) := by decide +kernel
theorem dL_rateFor_19 : decode cL_rateFor 19 = .ok (.iconst 2, 1) := by decide +kernel
theorem dL_rateFor_20 : decode cL_rateFor 20 = .ok (.ireturn, 1) := by decide +kernel
theorem dL_rateFor_21 : decode cL_rateFor 21 = .ok (.iconst 0, 1) := by decide +kernel
theorem dL_rateFor_22 : decode cL_rateFor 22 = .ok (.ireturn, 1) := by decide +kernel
set_option maxRecDepth 20000 in
theorem ggL_saleGain_X1_saleGain : GoodIn wsL_saleGain wsX1_saleGain := goodIn_ca (goodIn_ca (goodIn_r _ [7, 8, 9, 10, 11, 6, 12, 13, 14, 15, 16, 17, 18, 19, 20, 21, 22, 23, 24, 25, 26, 27, 28, 29, 30, 31, 32, 33, 34, 35, 36, 37, 38, 39, 40] (by decide +kernel) (by decide +kernel)) (goodIn_sub (fun _ h => List.mem_cons_of_mem _ (List.mem_append_left _ (List.mem_append_right _ h))) (by decide +kernel))) (goodIn_sub (fun _ h => List.mem_cons_of_mem _ (List.mem_append_right _ h)) (by decide +kernel))
set_option maxRecDepth 20000 in
theorem gL_saleGain_X1_saleGain : GoodIn wsL_saleGain (wsV RL 67 RX1 yX1_saleGain wsX1_saleGain) := goodIn_app (goodIn_of _ (by decide +kernel)) ggL_saleGain_X1_saleGain
theorem dL_saleGain_0 : decode cL_saleGain 0 = .ok (.aload 4, 2) := by decide +kernel
theorem dL_saleGain_2 : decode cL_saleGain 2 = .ok (.iconst 0, 1) := by decide +kernel
theorem dL_saleGain_3 : decode cL_saleGain 3 = .ok (.aload_n 0, 1) := by decide +kernel
theorem dL_saleGain_4 : decode cL_saleGain 4 = .ok (.iload_n 1, 1) := by decide +kernel
theorem dL_saleGain_5 : decode cL_saleGain 5 = .ok (.iload_n 2, 1) := by decide +kernel
theorem dL_saleGain_6 : decode cL_saleGain 6 = .ok (.iload_n 3, 1) := by decide +kernel
theorem dL_saleGain_7 : decode cL_saleGain 7 = .ok (.invokevirtual 67, 3) := by decide +kernel
theorem dL_saleGain_10 : decode cL_saleGain 10 = .ok (.i2l, 1) := by decide +kernel
theorem dL_saleGain_11 : decode cL_saleGain 11 = .ok (.lastore, 1) := by decide +kernel
theorem dL_saleGain_12 : decode cL_saleGain 12 = .ok (.goto 11, 3) := by decide +kernel
theorem dL_saleGain_15 : decode cL_saleGain 15 = .ok (.astore 5, 2) := by decide +kernel
theorem dL_saleGain_17 : decode cL_saleGain 17 = .ok (.iconst 1, 1) := by decide +kernel
theorem dL_saleGain_18 : decode cL_saleGain 18 = .ok (.ireturn, 1) := by decide +kernel
theorem dL_saleGain_19 : decode cL_saleGain 19 = .ok (.astore 5, 2) := by decide +kernel
theorem dL_saleGain_21 : decode cL_saleGain 21 = .ok (.iconst 2, 1) := by decide +kernel
theorem dL_saleGain_22 : decode cL_saleGain 22 = .ok (.ireturn, 1) := by decide +kernel
theorem dL_saleGain_23 : decode cL_saleGain 23 = .ok (.iconst 0, 1) := by decide +kernel
theorem dL_saleGain_24 : decode cL_saleGain 24 = .ok (.ireturn, 1) := by decide +kernel
set_option maxRecDepth 20000 in
theorem ggL_law_X1_init : GoodIn wsL_law wsX1_init := goodIn_r _ [9, 10, 11, 12, 13, 14, 15, 386, 387] (by decide +kernel) (by decide +kernel)
set_option maxRecDepth 20000 in
theorem gL_law_X1_init : GoodIn wsL_law (wsX1_init) := ggL_law_X1_init
set_option maxRecDepth 20000 in
theorem ggL_law_X2_init : GoodIn wsL_law wsX2_init := goodIn_r _ [18, 19, 11, 12, 20, 21, 22, 23, 24, 25, 26, 27, 28, 29, 30, 31, 388, 389, 390, 391, 392, 393, 394, 395, 396, 397, 398, 399, 400] (by decide +kernel) (by decide +kernel)
set_option maxRecDepth 20000 in
theorem gL_law_X2_init : GoodIn wsL_law (wsX2_init) := ggL_law_X2_init
set_option maxRecDepth 20000 in
theorem ggL_law_L_add : GoodIn wsL_law wsL_add := goodIn_ca (goodIn_ca (goodIn_r _ [35, 36, 37, 38, 39, 40, 2, 41, 42, 43, 15, 14, 13, 44, 45, 46, 47, 48, 49, 50, 51, 52, 53, 54, 11, 12, 55, 56, 57, 58, 59, 60, 61, 62, 63, 64, 20, 65, 66, 67, 68, 69, 70, 71, 72, 73, 74, 75, 76, 77, 78, 79, 80, 386, 387, 401, 402, 403, 404, 405, 406, 407, 408, 409, 410, 411] (by decide +kernel) (by decide +kernel)) (goodIn_sub (fun _ h => List.mem_append_left _ (List.mem_append_left _ (List.mem_append_right _ h))) (by decide +kernel))) (goodIn_sub (fun _ h => List.mem_append_left _ (List.mem_append_right _ h)) (by decide +kernel))
set_option maxRecDepth 20000 in
theorem gL_law_L_add : GoodIn wsL_law (va_wsS RL 74 yL_add wsL_add) := goodIn_app (goodIn_of _ (by decide +kernel)) ggL_law_L_add
set_option maxRecDepth 20000 in
theorem ggL_law_X2_add : GoodIn wsL_law wsX2_add := goodIn_r _ [84, 85, 86, 22, 24, 25, 21, 26, 27, 87, 88, 5, 89, 90, 91, 92, 93, 94, 95, 96, 97, 23, 98, 99, 100, 101, 102, 388, 389, 390, 391, 392, 393, 394, 395, 396, 397, 398, 399, 400] (by decide +kernel) (by decide +kernel)
set_option maxRecDepth 20000 in
theorem gL_law_X2_add : GoodIn wsL_law (wsV RL 79 RX2 yX2_add wsX2_add) := goodIn_app (goodIn_of _ (by decide +kernel)) ggL_law_X2_add
set_option maxRecDepth 20000 in
theorem ggL_law_X2_thrown : GoodIn wsL_law wsX2_thrown := goodIn_r _ [106, 85, 388, 389, 390, 391, 392, 393, 394, 395, 396, 397, 398, 399, 400] (by decide +kernel) (by decide +kernel)
set_option maxRecDepth 20000 in
theorem gL_law_X2_thrown : GoodIn wsL_law (wsV RL 80 RX2 yX2_thrown wsX2_thrown) := goodIn_app (goodIn_of _ (by decide +kernel)) ggL_law_X2_thrown
set_option maxRecDepth 20000 in
theorem ggL_law_L_pass : GoodIn wsL_law wsL_pass := goodIn_ca (goodIn_r _ [109, 36, 110, 111, 112, 2, 113, 14, 46, 47, 48, 49, 50, 114, 115, 116, 45, 117, 57, 58, 59, 60, 118, 119, 120, 121, 64, 72, 122, 123, 124, 125, 65, 126, 66, 127, 67, 128, 129, 130, 131, 132, 56, 61, 62, 63, 386, 387, 401, 402, 403, 404, 405, 406, 407, 408, 409, 410, 411] (by decide +kernel) (by decide +kernel)) (goodIn_sub (fun _ h => List.mem_append_left _ (List.mem_append_right _ h)) (by decide +kernel))
set_option maxRecDepth 20000 in
theorem gL_law_L_pass : GoodIn wsL_law (va_wsS RL 84 yL_pass wsL_pass) := goodIn_app (goodIn_of _ (by decide +kernel)) ggL_law_L_pass
set_option maxRecDepth 20000 in
theorem ggL_law_X2_pass : GoodIn wsL_law wsX2_pass := goodIn_r _ [136, 85, 86, 87, 88, 5, 89, 90, 91, 92, 93, 137, 138, 139, 140, 22, 23, 141, 142, 143, 144, 21, 25, 27, 24, 28, 26, 30, 29, 98, 99, 100, 101, 102, 388, 389, 390, 391, 392, 393, 394, 395, 396, 397, 398, 399, 400] (by decide +kernel) (by decide +kernel)
set_option maxRecDepth 20000 in
theorem gL_law_X2_pass : GoodIn wsL_law (wsV RL 87 RX2 yX2_pass wsX2_pass) := goodIn_app (goodIn_of _ (by decide +kernel)) ggL_law_X2_pass
set_option maxRecDepth 20000 in
theorem ggL_law_L_review : GoodIn wsL_law wsL_review := goodIn_ca (goodIn_ca (goodIn_ca (goodIn_r _ [147, 148, 36, 37, 149, 150, 151, 2, 152, 42, 43, 153, 154, 155, 156, 157, 158, 14, 46, 47, 48, 49, 50, 159, 160, 161, 162, 119, 120, 45, 121, 64, 72, 163, 164, 165, 166, 65, 76, 167, 168, 169, 170, 171, 172, 173, 174, 175, 176, 177, 178, 179, 180, 181, 182, 67, 183, 77, 78, 79, 80, 66, 68, 69, 70, 71, 55, 73, 74, 75, 184, 386, 387, 401, 402, 403, 404, 405, 406, 407, 408, 409, 410, 411] (by decide +kernel) (by decide +kernel)) (goodIn_sub (fun _ h => List.mem_append_left _ (List.mem_append_left _ (List.mem_append_right _ h))) (by decide +kernel))) (goodIn_sub (fun _ h => List.mem_append_right _ h) (by decide +kernel))) (goodIn_sub (fun _ h => List.mem_append_left _ (List.mem_append_right _ h)) (by decide +kernel))
set_option maxRecDepth 20000 in
theorem gL_law_L_review : GoodIn wsL_law (va_wsS RL 88 yL_review wsL_review) := goodIn_app (goodIn_of _ (by decide +kernel)) ggL_law_L_review
set_option maxRecDepth 20000 in
theorem ggL_law_X2_review : GoodIn wsL_law wsX2_review := goodIn_r _ [188, 85, 23, 22, 21, 189, 102, 190, 191, 192, 5, 193, 86, 87, 88, 89, 90, 91, 92, 93, 137, 138, 139, 140, 194, 195, 196, 197, 27, 26, 31, 94, 95, 96, 97, 24, 98, 99, 100, 101, 388, 389, 390, 391, 392, 393, 394, 395, 396, 397, 398, 399, 400] (by decide +kernel) (by decide +kernel)
set_option maxRecDepth 20000 in
theorem gL_law_X2_review : GoodIn wsL_law (wsV RL 91 RX2 yX2_review wsX2_review) := goodIn_app (goodIn_of _ (by decide +kernel)) ggL_law_X2_review
set_option maxRecDepth 20000 in
theorem ggL_law_L_lengthen : GoodIn wsL_law wsL_lengthen := goodIn_ca (goodIn_ca (goodIn_ca (goodIn_r _ [200, 148, 36, 37, 201, 202, 203, 2, 204, 42, 43, 153, 154, 155, 156, 157, 158, 14, 46, 47, 48, 49, 50, 159, 160, 161, 162, 119, 120, 45, 121, 64, 72, 205, 206, 207, 208, 209, 210, 211, 212, 57, 58, 59, 60, 65, 179, 180, 181, 182, 67, 183, 77, 78, 79, 80, 66, 68, 69, 70, 71, 55, 73, 74, 75, 76, 184, 386, 387, 401, 402, 403, 404, 405, 406, 407, 408, 409, 410, 411] (by decide +kernel) (by decide +kernel)) (goodIn_sub (fun _ h => List.mem_append_left _ (List.mem_append_left _ (List.mem_append_right _ h))) (by decide +kernel))) (goodIn_sub (fun _ h => List.mem_append_right _ h) (by decide +kernel))) (goodIn_sub (fun _ h => List.mem_append_left _ (List.mem_append_right _ h)) (by decide +kernel))
set_option maxRecDepth 20000 in
theorem gL_law_L_lengthen : GoodIn wsL_law (va_wsS RL 92 yL_lengthen wsL_lengthen) := goodIn_app (goodIn_of _ (by decide +kernel)) ggL_law_L_lengthen
set_option maxRecDepth 20000 in
theorem ggL_law_X2_lengthen : GoodIn wsL_law wsX2_lengthen := goodIn_r _ [216, 85, 22, 21, 190, 191, 192, 5, 193, 86, 87, 88, 89, 90, 91, 92, 93, 137, 138, 139, 140, 23, 194, 195, 196, 197, 27, 26, 31, 94, 95, 96, 97, 24, 98, 99, 100, 101, 102, 388, 389, 390, 391, 392, 393, 394, 395, 396, 397, 398, 399, 400] (by decide +kernel) (by decide +kernel)
set_option maxRecDepth 20000 in
theorem gL_law_X2_lengthen : GoodIn wsL_law (wsV RL 95 RX2 yX2_lengthen wsX2_lengthen) := goodIn_app (goodIn_of _ (by decide +kernel)) ggL_law_X2_lengthen
set_option maxRecDepth 20000 in
theorem ggL_law_L_shorten : GoodIn wsL_law wsL_shorten := goodIn_ca (goodIn_ca (goodIn_ca (goodIn_r _ [219, 148, 36, 37, 220, 221, 222, 2, 223, 42, 43, 153, 154, 155, 156, 157, 158, 14, 46, 47, 48, 49, 50, 162, 119, 120, 45, 121, 64, 72, 224, 225, 226, 227, 67, 118, 228, 229, 230, 231, 183, 77, 78, 79, 80, 66, 68, 69, 70, 71, 65, 55, 73, 74, 75, 76, 386, 387, 401, 402, 403, 404, 405, 406, 407, 408, 409, 410, 411] (by decide +kernel) (by decide +kernel)) (goodIn_sub (fun _ h => List.mem_append_left _ (List.mem_append_left _ (List.mem_append_right _ h))) (by decide +kernel))) (goodIn_sub (fun _ h => List.mem_append_right _ h) (by decide +kernel))) (goodIn_sub (fun _ h => List.mem_append_left _ (List.mem_append_right _ h)) (by decide +kernel))
set_option maxRecDepth 20000 in
theorem gL_law_L_shorten : GoodIn wsL_law (va_wsS RL 96 yL_shorten wsL_shorten) := goodIn_app (goodIn_of _ (by decide +kernel)) ggL_law_L_shorten
set_option maxRecDepth 20000 in
theorem ggL_law_X2_shorten : GoodIn wsL_law wsX2_shorten := goodIn_r _ [235, 85, 22, 27, 190, 191, 192, 5, 193, 86, 87, 88, 89, 90, 91, 92, 93, 137, 138, 139, 140, 23, 236, 237, 238, 239, 26, 31, 94, 95, 96, 97, 24, 98, 99, 100, 101, 102, 21, 388, 389, 390, 391, 392, 393, 394, 395, 396, 397, 398, 399, 400] (by decide +kernel) (by decide +kernel)
set_option maxRecDepth 20000 in
theorem gL_law_X2_shorten : GoodIn wsL_law (wsV RL 98 RX2 yX2_shorten wsX2_shorten) := goodIn_app (goodIn_of _ (by decide +kernel)) ggL_law_X2_shorten
set_option maxRecDepth 20000 in
theorem ggL_law_L_cut : GoodIn wsL_law wsL_cut := goodIn_ca (goodIn_ca (goodIn_ca (goodIn_r _ [242, 148, 36, 37, 243, 244, 245, 2, 246, 153, 154, 155, 156, 157, 158, 14, 46, 47, 48, 49, 50, 159, 160, 161, 42, 43, 162, 119, 120, 45, 121, 64, 72, 247, 248, 249, 250, 67, 175, 176, 177, 178, 65, 167, 168, 169, 170, 228, 229, 230, 231, 183, 77, 78, 79, 80, 66, 68, 69, 70, 71, 55, 73, 74, 75, 76, 386, 387, 401, 402, 403, 404, 405, 406, 407, 408, 409, 410, 411] (by decide +kernel) (by decide +kernel)) (goodIn_sub (fun _ h => List.mem_append_right _ h) (by decide +kernel))) (goodIn_sub (fun _ h => List.mem_append_left _ (List.mem_append_right _ h)) (by decide +kernel))) (goodIn_sub (fun _ h => List.mem_append_left _ (List.mem_append_left _ (List.mem_append_right _ h))) (by decide +kernel))
set_option maxRecDepth 20000 in
theorem gL_law_L_cut : GoodIn wsL_law (va_wsS RL 99 yL_cut wsL_cut) := goodIn_app (goodIn_of _ (by decide +kernel)) ggL_law_L_cut
set_option maxRecDepth 20000 in
theorem ggL_law_X2_cut : GoodIn wsL_law wsX2_cut := goodIn_r _ [254, 85, 23, 22, 21, 189, 27, 190, 191, 192, 5, 193, 86, 87, 88, 89, 90, 91, 92, 93, 137, 138, 139, 140, 236, 237, 238, 239, 26, 31, 94, 95, 96, 97, 24, 98, 99, 100, 101, 102, 388, 389, 390, 391, 392, 393, 394, 395, 396, 397, 398, 399, 400] (by decide +kernel) (by decide +kernel)
set_option maxRecDepth 20000 in
theorem gL_law_X2_cut : GoodIn wsL_law (wsV RL 101 RX2 yX2_cut wsX2_cut) := goodIn_app (goodIn_of _ (by decide +kernel)) ggL_law_X2_cut
set_option maxRecDepth 20000 in
theorem ggL_law_L_toCome : GoodIn wsL_law wsL_toCome := goodIn_ca (goodIn_r _ [257, 148, 258, 259, 260, 2, 261, 153, 154, 155, 156, 157, 158, 14, 162, 119, 120, 45, 121, 64, 72, 386, 387, 401, 402, 403, 404, 405, 406, 407, 408, 409, 410, 411] (by decide +kernel) (by decide +kernel)) (goodIn_sub (fun _ h => List.mem_append_right _ h) (by decide +kernel))
set_option maxRecDepth 20000 in
theorem gL_law_L_toCome : GoodIn wsL_law (va_wsS RL 102 yL_toCome wsL_toCome) := goodIn_app (goodIn_of _ (by decide +kernel)) ggL_law_L_toCome
set_option maxRecDepth 20000 in
theorem ggL_law_X2_toCome : GoodIn wsL_law wsX2_toCome := goodIn_r _ [265, 85, 190, 191, 192, 5, 193, 86, 87, 88, 89, 90, 91, 92, 93, 137, 138, 139, 140, 22, 23, 388, 389, 390, 391, 392, 393, 394, 395, 396, 397, 398, 399, 400] (by decide +kernel) (by decide +kernel)
set_option maxRecDepth 20000 in
theorem gL_law_X2_toCome : GoodIn wsL_law (wsV RL 104 RX2 yX2_toCome wsX2_toCome) := goodIn_app (goodIn_of _ (by decide +kernel)) ggL_law_X2_toCome
set_option maxRecDepth 20000 in
theorem ggL_law_L_payment : GoodIn wsL_law wsL_payment := goodIn_ca (goodIn_r _ [268, 148, 269, 270, 271, 2, 272, 157, 158, 153, 154, 155, 156, 14, 162, 119, 120, 45, 121, 64, 72, 273, 274, 275, 276, 65, 386, 387, 401, 402, 403, 404, 405, 406, 407, 408, 409, 410, 411] (by decide +kernel) (by decide +kernel)) (goodIn_sub (fun _ h => List.mem_append_right _ h) (by decide +kernel))
set_option maxRecDepth 20000 in
theorem gL_law_L_payment : GoodIn wsL_law (va_wsS RL 105 yL_payment wsL_payment) := goodIn_app (goodIn_of _ (by decide +kernel)) ggL_law_L_payment
set_option maxRecDepth 20000 in
theorem ggL_law_X2_payment : GoodIn wsL_law wsX2_payment := goodIn_r _ [280, 85, 21, 23, 190, 191, 192, 5, 193, 86, 87, 88, 89, 137, 138, 139, 140, 22, 90, 91, 92, 93, 388, 389, 390, 391, 392, 393, 394, 395, 396, 397, 398, 399, 400] (by decide +kernel) (by decide +kernel)
set_option maxRecDepth 20000 in
theorem gL_law_X2_payment : GoodIn wsL_law (wsV RL 107 RX2 yX2_payment wsX2_payment) := goodIn_app (goodIn_of _ (by decide +kernel)) ggL_law_X2_payment
set_option maxRecDepth 20000 in
theorem ggL_law_L_debt : GoodIn wsL_law wsL_debt := goodIn_ca (goodIn_r _ [283, 148, 284, 285, 286, 2, 287, 153, 154, 155, 156, 157, 158, 14, 184, 78, 79, 45, 80, 66, 72, 386, 387, 401, 402, 403, 404, 405, 406, 407, 408, 409, 410, 411] (by decide +kernel) (by decide +kernel)) (goodIn_sub (fun _ h => List.mem_append_right _ h) (by decide +kernel))
set_option maxRecDepth 20000 in
theorem gL_law_L_debt : GoodIn wsL_law (va_wsS RL 108 yL_debt wsL_debt) := goodIn_app (goodIn_of _ (by decide +kernel)) ggL_law_L_debt
set_option maxRecDepth 20000 in
theorem ggL_law_X2_debt : GoodIn wsL_law wsX2_debt := goodIn_r _ [291, 85, 26, 190, 191, 192, 5, 193, 86, 87, 88, 89, 90, 91, 92, 93, 388, 389, 390, 391, 392, 393, 394, 395, 396, 397, 398, 399, 400] (by decide +kernel) (by decide +kernel)
set_option maxRecDepth 20000 in
theorem gL_law_X2_debt : GoodIn wsL_law (wsV RL 110 RX2 yX2_debt wsX2_debt) := goodIn_app (goodIn_of _ (by decide +kernel)) ggL_law_X2_debt
set_option maxRecDepth 20000 in
theorem ggL_law_L_debtByWorth : GoodIn wsL_law wsL_debtByWorth := goodIn_ca (goodIn_r _ [294, 148, 295, 296, 297, 2, 298, 153, 154, 155, 156, 157, 158, 14, 299, 300, 301, 45, 302, 64, 72, 65, 73, 74, 75, 76, 401, 402, 403, 404, 405, 406, 407, 408, 409, 410, 411, 386, 387] (by decide +kernel) (by decide +kernel)) (goodIn_sub (fun _ h => List.mem_append_right _ h) (by decide +kernel))
set_option maxRecDepth 20000 in
theorem gL_law_L_debtByWorth : GoodIn wsL_law (va_wsS RL 111 yL_debtByWorth wsL_debtByWorth) := goodIn_app (goodIn_of _ (by decide +kernel)) ggL_law_L_debtByWorth
set_option maxRecDepth 20000 in
theorem ggL_law_X2_debtByWorth : GoodIn wsL_law wsX2_debtByWorth := goodIn_r _ [306, 85, 190, 191, 192, 5, 193, 86, 87, 88, 89, 90, 91, 92, 93, 94, 95, 96, 97, 23, 24, 98, 99, 100, 101, 102, 22, 21, 388, 389, 390, 391, 392, 393, 394, 395, 396, 397, 398, 399, 400] (by decide +kernel) (by decide +kernel)
set_option maxRecDepth 20000 in
theorem gL_law_X2_debtByWorth : GoodIn wsL_law (wsV RL 113 RX2 yX2_debtByWorth wsX2_debtByWorth) := goodIn_app (goodIn_of _ (by decide +kernel)) ggL_law_X2_debtByWorth
set_option maxRecDepth 20000 in
theorem ggL_law_L_right : GoodIn wsL_law wsL_right := goodIn_ca (goodIn_r _ [309, 148, 310, 311, 312, 2, 313, 153, 154, 155, 156, 157, 158, 14, 401, 402, 403, 404, 405, 406, 407, 408, 409, 410, 411, 386, 387] (by decide +kernel) (by decide +kernel)) (goodIn_sub (fun _ h => List.mem_append_right _ h) (by decide +kernel))
set_option maxRecDepth 20000 in
theorem gL_law_L_right : GoodIn wsL_law (va_wsS RL 114 yL_right wsL_right) := goodIn_app (goodIn_of _ (by decide +kernel)) ggL_law_L_right
set_option maxRecDepth 20000 in
theorem ggL_law_X2_right : GoodIn wsL_law wsX2_right := goodIn_r _ [317, 85, 27, 190, 191, 192, 5, 193, 86, 87, 88, 89, 90, 91, 92, 93, 388, 389, 390, 391, 392, 393, 394, 395, 396, 397, 398, 399, 400] (by decide +kernel) (by decide +kernel)
set_option maxRecDepth 20000 in
theorem gL_law_X2_right : GoodIn wsL_law (wsV RL 116 RX2 yX2_right wsX2_right) := goodIn_app (goodIn_of _ (by decide +kernel)) ggL_law_X2_right
set_option maxRecDepth 20000 in
theorem ggL_law_L_interest : GoodIn wsL_law wsL_interest := goodIn_ca (goodIn_r _ [320, 148, 321, 322, 323, 2, 324, 153, 154, 155, 156, 157, 158, 14, 401, 402, 403, 404, 405, 406, 407, 408, 409, 410, 411, 386, 387] (by decide +kernel) (by decide +kernel)) (goodIn_sub (fun _ h => List.mem_append_right _ h) (by decide +kernel))
set_option maxRecDepth 20000 in
theorem gL_law_L_interest : GoodIn wsL_law (va_wsS RL 117 yL_interest wsL_interest) := goodIn_app (goodIn_of _ (by decide +kernel)) ggL_law_L_interest
set_option maxRecDepth 20000 in
theorem ggL_law_X2_interest : GoodIn wsL_law wsX2_interest := goodIn_r _ [328, 85, 28, 190, 191, 192, 5, 193, 86, 87, 88, 89, 90, 91, 92, 93, 388, 389, 390, 391, 392, 393, 394, 395, 396, 397, 398, 399, 400] (by decide +kernel) (by decide +kernel)
set_option maxRecDepth 20000 in
theorem gL_law_X2_interest : GoodIn wsL_law (wsV RL 119 RX2 yX2_interest wsX2_interest) := goodIn_app (goodIn_of _ (by decide +kernel)) ggL_law_X2_interest
set_option maxRecDepth 20000 in
theorem ggL_law_L_written : GoodIn wsL_law wsL_written := goodIn_ca (goodIn_r _ [331, 148, 332, 333, 334, 2, 335, 153, 154, 155, 156, 157, 158, 14, 401, 402, 403, 404, 405, 406, 407, 408, 409, 410, 411, 386, 387] (by decide +kernel) (by decide +kernel)) (goodIn_sub (fun _ h => List.mem_append_right _ h) (by decide +kernel))
set_option maxRecDepth 20000 in
theorem gL_law_L_written : GoodIn wsL_law (va_wsS RL 120 yL_written wsL_written) := goodIn_app (goodIn_of _ (by decide +kernel)) ggL_law_L_written
set_option maxRecDepth 20000 in
theorem ggL_law_X2_written : GoodIn wsL_law wsX2_written := goodIn_r _ [339, 85, 29, 190, 191, 192, 5, 193, 86, 87, 88, 89, 90, 91, 92, 93, 388, 389, 390, 391, 392, 393, 394, 395, 396, 397, 398, 399, 400] (by decide +kernel) (by decide +kernel)
set_option maxRecDepth 20000 in
theorem gL_law_X2_written : GoodIn wsL_law (wsV RL 122 RX2 yX2_written wsX2_written) := goodIn_app (goodIn_of _ (by decide +kernel)) ggL_law_X2_written
set_option maxRecDepth 20000 in
theorem ggL_law_L_paid : GoodIn wsL_law wsL_paid := goodIn_ca (goodIn_r _ [342, 148, 343, 344, 345, 2, 346, 153, 154, 155, 156, 157, 158, 14, 401, 402, 403, 404, 405, 406, 407, 408, 409, 410, 411, 386, 387] (by decide +kernel) (by decide +kernel)) (goodIn_sub (fun _ h => List.mem_append_right _ h) (by decide +kernel))
set_option maxRecDepth 20000 in
theorem gL_law_L_paid : GoodIn wsL_law (va_wsS RL 123 yL_paid wsL_paid) := goodIn_app (goodIn_of _ (by decide +kernel)) ggL_law_L_paid
set_option maxRecDepth 20000 in
theorem ggL_law_X2_paid : GoodIn wsL_law wsX2_paid := goodIn_r _ [350, 85, 30, 190, 191, 192, 5, 193, 86, 87, 88, 89, 90, 91, 92, 93, 388, 389, 390, 391, 392, 393, 394, 395, 396, 397, 398, 399, 400] (by decide +kernel) (by decide +kernel)
set_option maxRecDepth 20000 in
theorem gL_law_X2_paid : GoodIn wsL_law (wsV RL 125 RX2 yX2_paid wsX2_paid) := goodIn_app (goodIn_of _ (by decide +kernel)) ggL_law_X2_paid
set_option maxRecDepth 20000 in
theorem ggL_law_L_gains : GoodIn wsL_law wsL_gains := goodIn_ca (goodIn_r _ [353, 148, 354, 355, 356, 2, 357, 153, 154, 155, 156, 157, 158, 14, 401, 402, 403, 404, 405, 406, 407, 408, 409, 410, 411, 386, 387] (by decide +kernel) (by decide +kernel)) (goodIn_sub (fun _ h => List.mem_append_right _ h) (by decide +kernel))
set_option maxRecDepth 20000 in
theorem gL_law_L_gains : GoodIn wsL_law (va_wsS RL 126 yL_gains wsL_gains) := goodIn_app (goodIn_of _ (by decide +kernel)) ggL_law_L_gains
set_option maxRecDepth 20000 in
theorem ggL_law_X2_gains : GoodIn wsL_law wsX2_gains := goodIn_r _ [361, 85, 31, 190, 191, 192, 5, 193, 86, 87, 88, 89, 90, 91, 92, 93, 388, 389, 390, 391, 392, 393, 394, 395, 396, 397, 398, 399, 400] (by decide +kernel) (by decide +kernel)
set_option maxRecDepth 20000 in
theorem gL_law_X2_gains : GoodIn wsL_law (wsV RL 128 RX2 yX2_gains wsX2_gains) := goodIn_app (goodIn_of _ (by decide +kernel)) ggL_law_X2_gains
set_option maxRecDepth 20000 in
theorem ggL_law_L_rateFor : GoodIn wsL_law wsL_rateFor := goodIn_ca (goodIn_ca (goodIn_r _ [364, 148, 36, 365, 366, 367, 2, 368, 369, 153, 154, 155, 156, 157, 158, 14, 46, 47, 48, 49, 50, 299, 300, 301, 45, 302, 64, 72, 65, 73, 74, 75, 76, 386, 387, 401, 402, 403, 404, 405, 406, 407, 408, 409, 410, 411] (by decide +kernel) (by decide +kernel)) (goodIn_sub (fun _ h => List.mem_append_right _ h) (by decide +kernel))) (goodIn_sub (fun _ h => List.mem_append_left _ (List.mem_append_right _ h)) (by decide +kernel))
set_option maxRecDepth 20000 in
theorem gL_law_L_rateFor : GoodIn wsL_law (va_wsS RL 129 yL_rateFor wsL_rateFor) := goodIn_app (goodIn_of _ (by decide +kernel)) ggL_law_L_rateFor
set_option maxRecDepth 20000 in
theorem ggL_law_X2_rateFor : GoodIn wsL_law wsX2_rateFor := goodIn_r _ [373, 85, 374, 23, 190, 191, 192, 5, 193, 86, 87, 88, 89, 90, 91, 92, 93, 98, 99, 100, 101, 102, 22, 21, 388, 389, 390, 391, 392, 393, 394, 395, 396, 397, 398, 399, 400] (by decide +kernel) (by decide +kernel)
set_option maxRecDepth 20000 in
theorem gL_law_X2_rateFor : GoodIn wsL_law (wsV RL 131 RX2 yX2_rateFor wsX2_rateFor) := goodIn_app (goodIn_of _ (by decide +kernel)) ggL_law_X2_rateFor
set_option maxRecDepth 20000 in
theorem ggL_law_L_saleGain : GoodIn wsL_law wsL_saleGain := goodIn_ca (goodIn_ca (goodIn_r _ [377, 148, 36, 378, 379, 380, 2, 381, 369, 153, 154, 155, 156, 157, 158, 14, 46, 47, 48, 49, 50, 184, 78, 79, 45, 80, 66, 72, 386, 387, 401, 402, 403, 404, 405, 406, 407, 408, 409, 410, 411] (by decide +kernel) (by decide +kernel)) (goodIn_sub (fun _ h => List.mem_append_right _ h) (by decide +kernel))) (goodIn_sub (fun _ h => List.mem_append_left _ (List.mem_append_right _ h)) (by decide +kernel))
set_option maxRecDepth 20000 in
theorem gL_law_L_saleGain : GoodIn wsL_law (va_wsS RL 132 yL_saleGain wsL_saleGain) := goodIn_app (goodIn_of _ (by decide +kernel)) ggL_law_L_saleGain
set_option maxRecDepth 20000 in
theorem ggL_law_X2_saleGain : GoodIn wsL_law wsX2_saleGain := goodIn_r _ [385, 85, 374, 26, 190, 191, 192, 5, 193, 86, 87, 88, 89, 90, 91, 92, 93, 388, 389, 390, 391, 392, 393, 394, 395, 396, 397, 398, 399, 400] (by decide +kernel) (by decide +kernel)
set_option maxRecDepth 20000 in
theorem gL_law_X2_saleGain : GoodIn wsL_law (wsV RL 134 RX2 yX2_saleGain wsX2_saleGain) := goodIn_app (goodIn_of _ (by decide +kernel)) ggL_law_X2_saleGain
end
section
theorem dL_law_0 : decode cL_law 0 = .ok (.new 8, 3) := by decide +kernel
theorem dL_law_3 : decode cL_law 3 = .ok (.dup, 1) := by decide +kernel
theorem dL_law_4 : decode cL_law 4 = .ok (.invokespecial 70, 3) := by decide +kernel
theorem dL_law_7 : decode cL_law 7 = .ok (.astore_n 1, 1) := by decide +kernel
theorem dL_law_8 : decode cL_law 8 = .ok (.new 71, 3) := by decide +kernel
theorem dL_law_11 : decode cL_law 11 = .ok (.dup, 1) := by decide +kernel
theorem dL_law_12 : decode cL_law 12 = .ok (.invokespecial 73, 3) := by decide +kernel
theorem dL_law_15 : decode cL_law 15 = .ok (.astore_n 2, 1) := by decide +kernel
theorem dL_law_16 : decode cL_law 16 = .ok (.iconst 1, 1) := by decide +kernel
theorem dL_law_17 : decode cL_law 17 = .ok (.newarray .long, 2) := by decide +kernel
theorem dL_law_19 : decode cL_law 19 = .ok (.astore_n 3, 1) := by decide +kernel
theorem dL_law_20 : decode cL_law 20 = .ok (.iconst 0, 1) := by decide +kernel
theorem dL_law_21 : decode cL_law 21 = .ok (.istore 4, 2) := by decide +kernel
theorem dL_law_23 : decode cL_law 23 = .ok (.iload 4, 2) := by decide +kernel
theorem dL_law_25 : decode cL_law 25 = .ok (.aload_n 0, 1) := by decide +kernel
theorem dL_law_26 : decode cL_law 26 = .ok (.arraylength, 1) := by decide +kernel
theorem dL_law_27 : decode cL_law 27 = .ok (.bipush 8, 2) := by decide +kernel
theorem dL_law_29 : decode cL_law 29 = .ok (.isub, 1) := by decide +kernel
theorem dL_law_30 : decode cL_law 30 = .ok (.if_icmp .gt 1236, 3) := by decide +kernel
theorem dL_law_33 : decode cL_law 33 = .ok (.aload_n 0, 1) := by decide +kernel
theorem dL_law_34 : decode cL_law 34 = .ok (.iload 4, 2) := by decide +kernel
theorem dL_law_36 : decode cL_law 36 = .ok (.iaload, 1) := by decide +kernel
theorem dL_law_37 : decode cL_law 37 = .ok (.bipush 31, 2) := by decide +kernel
theorem dL_law_39 : decode cL_law 39 = .ok (.iand, 1) := by decide +kernel
theorem dL_law_40 : decode cL_law 40 = .ok (.tableswitch 1220 0 16 #[84, 216, 272, 340, 420, 488, 556, 612, 680, 736, 792, 848, 904, 960, 1016, 1072, 1140], 84) := by decide +kernel
theorem dL_law_124 : decode cL_law 124 = .ok (.aload_n 1, 1) := by decide +kernel
theorem dL_law_125 : decode cL_law 125 = .ok (.aload_n 0, 1) := by decide +kernel
theorem dL_law_126 : decode cL_law 126 = .ok (.iload 4, 2) := by decide +kernel
theorem dL_law_128 : decode cL_law 128 = .ok (.iconst 1, 1) := by decide +kernel
theorem dL_law_129 : decode cL_law 129 = .ok (.iadd, 1) := by decide +kernel
theorem dL_law_130 : decode cL_law 130 = .ok (.iaload, 1) := by decide +kernel
theorem dL_law_131 : decode cL_law 131 = .ok (.aload_n 0, 1) := by decide +kernel
theorem dL_law_132 : decode cL_law 132 = .ok (.iload 4, 2) := by decide +kernel
theorem dL_law_134 : decode cL_law 134 = .ok (.iconst 2, 1) := by decide +kernel
theorem dL_law_135 : decode cL_law 135 = .ok (.iadd, 1) := by decide +kernel
theorem dL_law_136 : decode cL_law 136 = .ok (.iaload, 1) := by decide +kernel
theorem dL_law_137 : decode cL_law 137 = .ok (.aload_n 0, 1) := by decide +kernel
theorem dL_law_138 : decode cL_law 138 = .ok (.iload 4, 2) := by decide +kernel
theorem dL_law_140 : decode cL_law 140 = .ok (.iconst 3, 1) := by decide +kernel
theorem dL_law_141 : decode cL_law 141 = .ok (.iadd, 1) := by decide +kernel
theorem dL_law_142 : decode cL_law 142 = .ok (.iaload, 1) := by decide +kernel
theorem dL_law_143 : decode cL_law 143 = .ok (.aload_n 0, 1) := by decide +kernel
theorem dL_law_144 : decode cL_law 144 = .ok (.iload 4, 2) := by decide +kernel
theorem dL_law_146 : decode cL_law 146 = .ok (.iconst 4, 1) := by decide +kernel
theorem dL_law_147 : decode cL_law 147 = .ok (.iadd, 1) := by decide +kernel
theorem dL_law_148 : decode cL_law 148 = .ok (.iaload, 1) := by decide +kernel
theorem dL_law_149 : decode cL_law 149 = .ok (.aload_n 0, 1) := by decide +kernel
theorem dL_law_150 : decode cL_law 150 = .ok (.iload 4, 2) := by decide +kernel
theorem dL_law_152 : decode cL_law 152 = .ok (.iconst 5, 1) := by decide +kernel
theorem dL_law_153 : decode cL_law 153 = .ok (.iadd, 1) := by decide +kernel
theorem dL_law_154 : decode cL_law 154 = .ok (.iaload, 1) := by decide +kernel
theorem dL_law_155 : decode cL_law 155 = .ok (.aload_n 0, 1) := by decide +kernel
theorem dL_law_156 : decode cL_law 156 = .ok (.iload 4, 2) := by decide +kernel
theorem dL_law_158 : decode cL_law 158 = .ok (.bipush 6, 2) := by decide +kernel
theorem dL_law_160 : decode cL_law 160 = .ok (.iadd, 1) := by decide +kernel
theorem dL_law_161 : decode cL_law 161 = .ok (.iaload, 1) := by decide +kernel
theorem dL_law_162 : decode cL_law 162 = .ok (.aload_n 0, 1) := by decide +kernel
theorem dL_law_163 : decode cL_law 163 = .ok (.iload 4, 2) := by decide +kernel
theorem dL_law_165 : decode cL_law 165 = .ok (.bipush 7, 2) := by decide +kernel
theorem dL_law_167 : decode cL_law 167 = .ok (.iadd, 1) := by decide +kernel
theorem dL_law_168 : decode cL_law 168 = .ok (.iaload, 1) := by decide +kernel
theorem dL_law_169 : decode cL_law 169 = .ok (.aload_n 3, 1) := by decide +kernel
theorem dL_law_170 : decode cL_law 170 = .ok (.invokestatic 74, 3) := by decide +kernel
theorem dL_law_173 : decode cL_law 173 = .ok (.istore 5, 2) := by decide +kernel
theorem dL_law_175 : decode cL_law 175 = .ok (.aload_n 2, 1) := by decide +kernel
theorem dL_law_176 : decode cL_law 176 = .ok (.aload_n 0, 1) := by decide +kernel
theorem dL_law_177 : decode cL_law 177 = .ok (.iload 4, 2) := by decide +kernel
theorem dL_law_179 : decode cL_law 179 = .ok (.iconst 1, 1) := by decide +kernel
theorem dL_law_180 : decode cL_law 180 = .ok (.iadd, 1) := by decide +kernel
theorem dL_law_181 : decode cL_law 181 = .ok (.iaload, 1) := by decide +kernel
theorem dL_law_182 : decode cL_law 182 = .ok (.aload_n 0, 1) := by decide +kernel
theorem dL_law_183 : decode cL_law 183 = .ok (.iload 4, 2) := by decide +kernel
theorem dL_law_185 : decode cL_law 185 = .ok (.iconst 2, 1) := by decide +kernel
theorem dL_law_186 : decode cL_law 186 = .ok (.iadd, 1) := by decide +kernel
theorem dL_law_187 : decode cL_law 187 = .ok (.iaload, 1) := by decide +kernel
theorem dL_law_188 : decode cL_law 188 = .ok (.aload_n 0, 1) := by decide +kernel
theorem dL_law_189 : decode cL_law 189 = .ok (.iload 4, 2) := by decide +kernel
theorem dL_law_191 : decode cL_law 191 = .ok (.iconst 3, 1) := by decide +kernel
theorem dL_law_192 : decode cL_law 192 = .ok (.iadd, 1) := by decide +kernel
theorem dL_law_193 : decode cL_law 193 = .ok (.iaload, 1) := by decide +kernel
theorem dL_law_194 : decode cL_law 194 = .ok (.aload_n 0, 1) := by decide +kernel
theorem dL_law_195 : decode cL_law 195 = .ok (.iload 4, 2) := by decide +kernel
theorem dL_law_197 : decode cL_law 197 = .ok (.iconst 4, 1) := by decide +kernel
theorem dL_law_198 : decode cL_law 198 = .ok (.iadd, 1) := by decide +kernel
theorem dL_law_199 : decode cL_law 199 = .ok (.iaload, 1) := by decide +kernel
theorem dL_law_200 : decode cL_law 200 = .ok (.aload_n 0, 1) := by decide +kernel
theorem dL_law_201 : decode cL_law 201 = .ok (.iload 4, 2) := by decide +kernel
theorem dL_law_203 : decode cL_law 203 = .ok (.iconst 5, 1) := by decide +kernel
theorem dL_law_204 : decode cL_law 204 = .ok (.iadd, 1) := by decide +kernel
theorem dL_law_205 : decode cL_law 205 = .ok (.iaload, 1) := by decide +kernel
theorem dL_law_206 : decode cL_law 206 = .ok (.aload_n 0, 1) := by decide +kernel
theorem dL_law_207 : decode cL_law 207 = .ok (.iload 4, 2) := by decide +kernel
theorem dL_law_209 : decode cL_law 209 = .ok (.bipush 6, 2) := by decide +kernel
theorem dL_law_211 : decode cL_law 211 = .ok (.iadd, 1) := by decide +kernel
theorem dL_law_212 : decode cL_law 212 = .ok (.iaload, 1) := by decide +kernel
theorem dL_law_213 : decode cL_law 213 = .ok (.aload_n 0, 1) := by decide +kernel
theorem dL_law_214 : decode cL_law 214 = .ok (.iload 4, 2) := by decide +kernel
theorem dL_law_216 : decode cL_law 216 = .ok (.bipush 7, 2) := by decide +kernel
theorem dL_law_218 : decode cL_law 218 = .ok (.iadd, 1) := by decide +kernel
theorem dL_law_219 : decode cL_law 219 = .ok (.iaload, 1) := by decide +kernel
theorem dL_law_220 : decode cL_law 220 = .ok (.invokevirtual 79, 3) := by decide +kernel
theorem dL_law_223 : decode cL_law 223 = .ok (.istore 6, 2) := by decide +kernel
theorem dL_law_225 : decode cL_law 225 = .ok (.aload_n 2, 1) := by decide +kernel
theorem dL_law_226 : decode cL_law 226 = .ok (.invokevirtual 80, 3) := by decide +kernel
theorem dL_law_229 : decode cL_law 229 = .ok (.iload 5, 2) := by decide +kernel
theorem dL_law_231 : decode cL_law 231 = .ok (.if_icmp .eq 5, 3) := by decide +kernel
theorem dL_law_234 : decode cL_law 234 = .ok (.iconst 0, 1) := by decide +kernel
theorem dL_law_235 : decode cL_law 235 = .ok (.ireturn, 1) := by decide +kernel
theorem dL_law_236 : decode cL_law 236 = .ok (.iload 5, 2) := by decide +kernel
theorem dL_law_238 : decode cL_law 238 = .ok (.ifCond .ne 15, 3) := by decide +kernel
theorem dL_law_241 : decode cL_law 241 = .ok (.aload_n 3, 1) := by decide +kernel
theorem dL_law_242 : decode cL_law 242 = .ok (.iconst 0, 1) := by decide +kernel
theorem dL_law_243 : decode cL_law 243 = .ok (.laload, 1) := by decide +kernel
theorem dL_law_244 : decode cL_law 244 = .ok (.iload 6, 2) := by decide +kernel
theorem dL_law_246 : decode cL_law 246 = .ok (.i2l, 1) := by decide +kernel
theorem dL_law_247 : decode cL_law 247 = .ok (.lcmp, 1) := by decide +kernel
theorem dL_law_248 : decode cL_law 248 = .ok (.ifCond .eq 5, 3) := by decide +kernel
theorem dL_law_251 : decode cL_law 251 = .ok (.iconst 0, 1) := by decide +kernel
theorem dL_law_252 : decode cL_law 252 = .ok (.ireturn, 1) := by decide +kernel
theorem dL_law_253 : decode cL_law 253 = .ok (.goto 1007, 3) := by decide +kernel
theorem dL_law_256 : decode cL_law 256 = .ok (.aload_n 1, 1) := by decide +kernel
theorem dL_law_257 : decode cL_law 257 = .ok (.aload_n 0, 1) := by decide +kernel
theorem dL_law_258 : decode cL_law 258 = .ok (.iload 4, 2) := by decide +kernel
theorem dL_law_260 : decode cL_law 260 = .ok (.iconst 1, 1) := by decide +kernel
theorem dL_law_261 : decode cL_law 261 = .ok (.iadd, 1) := by decide +kernel
theorem dL_law_262 : decode cL_law 262 = .ok (.iaload, 1) := by decide +kernel
theorem dL_law_263 : decode cL_law 263 = .ok (.aload_n 3, 1) := by decide +kernel
theorem dL_law_264 : decode cL_law 264 = .ok (.invokestatic 84, 3) := by decide +kernel
theorem dL_law_267 : decode cL_law 267 = .ok (.istore 5, 2) := by decide +kernel
theorem dL_law_269 : decode cL_law 269 = .ok (.aload_n 2, 1) := by decide +kernel
theorem dL_law_270 : decode cL_law 270 = .ok (.aload_n 0, 1) := by decide +kernel
theorem dL_law_271 : decode cL_law 271 = .ok (.iload 4, 2) := by decide +kernel
theorem dL_law_273 : decode cL_law 273 = .ok (.iconst 1, 1) := by decide +kernel
theorem dL_law_274 : decode cL_law 274 = .ok (.iadd, 1) := by decide +kernel
theorem dL_law_275 : decode cL_law 275 = .ok (.iaload, 1) := by decide +kernel
theorem dL_law_276 : decode cL_law 276 = .ok (.invokevirtual 87, 3) := by decide +kernel
theorem dL_law_279 : decode cL_law 279 = .ok (.istore 6, 2) := by decide +kernel
theorem dL_law_281 : decode cL_law 281 = .ok (.aload_n 2, 1) := by decide +kernel
theorem dL_law_282 : decode cL_law 282 = .ok (.invokevirtual 80, 3) := by decide +kernel
theorem dL_law_285 : decode cL_law 285 = .ok (.iload 5, 2) := by decide +kernel
theorem dL_law_287 : decode cL_law 287 = .ok (.if_icmp .eq 5, 3) := by decide +kernel
theorem dL_law_290 : decode cL_law 290 = .ok (.iconst 0, 1) := by decide +kernel
theorem dL_law_291 : decode cL_law 291 = .ok (.ireturn, 1) := by decide +kernel
theorem dL_law_292 : decode cL_law 292 = .ok (.iload 5, 2) := by decide +kernel
theorem dL_law_294 : decode cL_law 294 = .ok (.ifCond .ne 15, 3) := by decide +kernel
theorem dL_law_297 : decode cL_law 297 = .ok (.aload_n 3, 1) := by decide +kernel
theorem dL_law_298 : decode cL_law 298 = .ok (.iconst 0, 1) := by decide +kernel
theorem dL_law_299 : decode cL_law 299 = .ok (.laload, 1) := by decide +kernel
theorem dL_law_300 : decode cL_law 300 = .ok (.iload 6, 2) := by decide +kernel
theorem dL_law_302 : decode cL_law 302 = .ok (.i2l, 1) := by decide +kernel
theorem dL_law_303 : decode cL_law 303 = .ok (.lcmp, 1) := by decide +kernel
theorem dL_law_304 : decode cL_law 304 = .ok (.ifCond .eq 5, 3) := by decide +kernel
theorem dL_law_307 : decode cL_law 307 = .ok (.iconst 0, 1) := by decide +kernel
theorem dL_law_308 : decode cL_law 308 = .ok (.ireturn, 1) := by decide +kernel
theorem dL_law_309 : decode cL_law 309 = .ok (.goto 951, 3) := by decide +kernel
theorem dL_law_312 : decode cL_law 312 = .ok (.aload_n 1, 1) := by decide +kernel
theorem dL_law_313 : decode cL_law 313 = .ok (.aload_n 0, 1) := by decide +kernel
theorem dL_law_314 : decode cL_law 314 = .ok (.iload 4, 2) := by decide +kernel
theorem dL_law_316 : decode cL_law 316 = .ok (.iconst 1, 1) := by decide +kernel
theorem dL_law_317 : decode cL_law 317 = .ok (.iadd, 1) := by decide +kernel
theorem dL_law_318 : decode cL_law 318 = .ok (.iaload, 1) := by decide +kernel
theorem dL_law_319 : decode cL_law 319 = .ok (.aload_n 0, 1) := by decide +kernel
theorem dL_law_320 : decode cL_law 320 = .ok (.iload 4, 2) := by decide +kernel
theorem dL_law_322 : decode cL_law 322 = .ok (.iconst 2, 1) := by decide +kernel
theorem dL_law_323 : decode cL_law 323 = .ok (.iadd, 1) := by decide +kernel
theorem dL_law_324 : decode cL_law 324 = .ok (.iaload, 1) := by decide +kernel
theorem dL_law_325 : decode cL_law 325 = .ok (.aload_n 3, 1) := by decide +kernel
theorem dL_law_326 : decode cL_law 326 = .ok (.invokestatic 88, 3) := by decide +kernel
theorem dL_law_329 : decode cL_law 329 = .ok (.istore 5, 2) := by decide +kernel
theorem dL_law_331 : decode cL_law 331 = .ok (.aload_n 2, 1) := by decide +kernel
theorem dL_law_332 : decode cL_law 332 = .ok (.aload_n 0, 1) := by decide +kernel
theorem dL_law_333 : decode cL_law 333 = .ok (.iload 4, 2) := by decide +kernel
theorem dL_law_335 : decode cL_law 335 = .ok (.iconst 1, 1) := by decide +kernel
theorem dL_law_336 : decode cL_law 336 = .ok (.iadd, 1) := by decide +kernel
theorem dL_law_337 : decode cL_law 337 = .ok (.iaload, 1) := by decide +kernel
theorem dL_law_338 : decode cL_law 338 = .ok (.aload_n 0, 1) := by decide +kernel
theorem dL_law_339 : decode cL_law 339 = .ok (.iload 4, 2) := by decide +kernel
theorem dL_law_341 : decode cL_law 341 = .ok (.iconst 2, 1) := by decide +kernel
theorem dL_law_342 : decode cL_law 342 = .ok (.iadd, 1) := by decide +kernel
theorem dL_law_343 : decode cL_law 343 = .ok (.iaload, 1) := by decide +kernel
theorem dL_law_344 : decode cL_law 344 = .ok (.invokevirtual 91, 3) := by decide +kernel
theorem dL_law_347 : decode cL_law 347 = .ok (.istore 6, 2) := by decide +kernel
theorem dL_law_349 : decode cL_law 349 = .ok (.aload_n 2, 1) := by decide +kernel
theorem dL_law_350 : decode cL_law 350 = .ok (.invokevirtual 80, 3) := by decide +kernel
theorem dL_law_353 : decode cL_law 353 = .ok (.iload 5, 2) := by decide +kernel
theorem dL_law_355 : decode cL_law 355 = .ok (.if_icmp .eq 5, 3) := by decide +kernel
theorem dL_law_358 : decode cL_law 358 = .ok (.iconst 0, 1) := by decide +kernel
theorem dL_law_359 : decode cL_law 359 = .ok (.ireturn, 1) := by decide +kernel
theorem dL_law_360 : decode cL_law 360 = .ok (.iload 5, 2) := by decide +kernel
theorem dL_law_362 : decode cL_law 362 = .ok (.ifCond .ne 15, 3) := by decide +kernel
theorem dL_law_365 : decode cL_law 365 = .ok (.aload_n 3, 1) := by decide +kernel
theorem dL_law_366 : decode cL_law 366 = .ok (.iconst 0, 1) := by decide +kernel
theorem dL_law_367 : decode cL_law 367 = .ok (.laload, 1) := by decide +kernel
theorem dL_law_368 : decode cL_law 368 = .ok (.iload 6, 2) := by decide +kernel
theorem dL_law_370 : decode cL_law 370 = .ok (.i2l, 1) := by decide +kernel
theorem dL_law_371 : decode cL_law 371 = .ok (.lcmp, 1) := by decide +kernel
theorem dL_law_372 : decode cL_law 372 = .ok (.ifCond .eq 5, 3) := by decide +kernel
theorem dL_law_375 : decode cL_law 375 = .ok (.iconst 0, 1) := by decide +kernel
theorem dL_law_376 : decode cL_law 376 = .ok (.ireturn, 1) := by decide +kernel
theorem dL_law_377 : decode cL_law 377 = .ok (.goto 883, 3) := by decide +kernel
theorem dL_law_380 : decode cL_law 380 = .ok (.aload_n 1, 1) := by decide +kernel
theorem dL_law_381 : decode cL_law 381 = .ok (.aload_n 0, 1) := by decide +kernel
theorem dL_law_382 : decode cL_law 382 = .ok (.iload 4, 2) := by decide +kernel
theorem dL_law_384 : decode cL_law 384 = .ok (.iconst 1, 1) := by decide +kernel
theorem dL_law_385 : decode cL_law 385 = .ok (.iadd, 1) := by decide +kernel
theorem dL_law_386 : decode cL_law 386 = .ok (.iaload, 1) := by decide +kernel
theorem dL_law_387 : decode cL_law 387 = .ok (.aload_n 0, 1) := by decide +kernel
theorem dL_law_388 : decode cL_law 388 = .ok (.iload 4, 2) := by decide +kernel
theorem dL_law_390 : decode cL_law 390 = .ok (.iconst 2, 1) := by decide +kernel
theorem dL_law_391 : decode cL_law 391 = .ok (.iadd, 1) := by decide +kernel
theorem dL_law_392 : decode cL_law 392 = .ok (.iaload, 1) := by decide +kernel
theorem dL_law_393 : decode cL_law 393 = .ok (.aload_n 0, 1) := by decide +kernel
theorem dL_law_394 : decode cL_law 394 = .ok (.iload 4, 2) := by decide +kernel
theorem dL_law_396 : decode cL_law 396 = .ok (.iconst 3, 1) := by decide +kernel
theorem dL_law_397 : decode cL_law 397 = .ok (.iadd, 1) := by decide +kernel
theorem dL_law_398 : decode cL_law 398 = .ok (.iaload, 1) := by decide +kernel
theorem dL_law_399 : decode cL_law 399 = .ok (.aload_n 3, 1) := by decide +kernel
theorem dL_law_400 : decode cL_law 400 = .ok (.invokestatic 92, 3) := by decide +kernel
theorem dL_law_403 : decode cL_law 403 = .ok (.istore 5, 2) := by decide +kernel
theorem dL_law_405 : decode cL_law 405 = .ok (.aload_n 2, 1) := by decide +kernel
theorem dL_law_406 : decode cL_law 406 = .ok (.aload_n 0, 1) := by decide +kernel
theorem dL_law_407 : decode cL_law 407 = .ok (.iload 4, 2) := by decide +kernel
theorem dL_law_409 : decode cL_law 409 = .ok (.iconst 1, 1) := by decide +kernel
theorem dL_law_410 : decode cL_law 410 = .ok (.iadd, 1) := by decide +kernel
theorem dL_law_411 : decode cL_law 411 = .ok (.iaload, 1) := by decide +kernel
theorem dL_law_412 : decode cL_law 412 = .ok (.aload_n 0, 1) := by decide +kernel
theorem dL_law_413 : decode cL_law 413 = .ok (.iload 4, 2) := by decide +kernel
theorem dL_law_415 : decode cL_law 415 = .ok (.iconst 2, 1) := by decide +kernel
theorem dL_law_416 : decode cL_law 416 = .ok (.iadd, 1) := by decide +kernel
theorem dL_law_417 : decode cL_law 417 = .ok (.iaload, 1) := by decide +kernel
theorem dL_law_418 : decode cL_law 418 = .ok (.aload_n 0, 1) := by decide +kernel
theorem dL_law_419 : decode cL_law 419 = .ok (.iload 4, 2) := by decide +kernel
theorem dL_law_421 : decode cL_law 421 = .ok (.iconst 3, 1) := by decide +kernel
theorem dL_law_422 : decode cL_law 422 = .ok (.iadd, 1) := by decide +kernel
theorem dL_law_423 : decode cL_law 423 = .ok (.iaload, 1) := by decide +kernel
theorem dL_law_424 : decode cL_law 424 = .ok (.invokevirtual 95, 3) := by decide +kernel
theorem dL_law_427 : decode cL_law 427 = .ok (.istore 6, 2) := by decide +kernel
theorem dL_law_429 : decode cL_law 429 = .ok (.aload_n 2, 1) := by decide +kernel
theorem dL_law_430 : decode cL_law 430 = .ok (.invokevirtual 80, 3) := by decide +kernel
theorem dL_law_433 : decode cL_law 433 = .ok (.iload 5, 2) := by decide +kernel
theorem dL_law_435 : decode cL_law 435 = .ok (.if_icmp .eq 5, 3) := by decide +kernel
theorem dL_law_438 : decode cL_law 438 = .ok (.iconst 0, 1) := by decide +kernel
theorem dL_law_439 : decode cL_law 439 = .ok (.ireturn, 1) := by decide +kernel
theorem dL_law_440 : decode cL_law 440 = .ok (.iload 5, 2) := by decide +kernel
theorem dL_law_442 : decode cL_law 442 = .ok (.ifCond .ne 15, 3) := by decide +kernel
theorem dL_law_445 : decode cL_law 445 = .ok (.aload_n 3, 1) := by decide +kernel
theorem dL_law_446 : decode cL_law 446 = .ok (.iconst 0, 1) := by decide +kernel
theorem dL_law_447 : decode cL_law 447 = .ok (.laload, 1) := by decide +kernel
theorem dL_law_448 : decode cL_law 448 = .ok (.iload 6, 2) := by decide +kernel
theorem dL_law_450 : decode cL_law 450 = .ok (.i2l, 1) := by decide +kernel
theorem dL_law_451 : decode cL_law 451 = .ok (.lcmp, 1) := by decide +kernel
theorem dL_law_452 : decode cL_law 452 = .ok (.ifCond .eq 5, 3) := by decide +kernel
theorem dL_law_455 : decode cL_law 455 = .ok (.iconst 0, 1) := by decide +kernel
theorem dL_law_456 : decode cL_law 456 = .ok (.ireturn, 1) := by decide +kernel
theorem dL_law_457 : decode cL_law 457 = .ok (.goto 803, 3) := by decide +kernel
theorem dL_law_460 : decode cL_law 460 = .ok (.aload_n 1, 1) := by decide +kernel
theorem dL_law_461 : decode cL_law 461 = .ok (.aload_n 0, 1) := by decide +kernel
theorem dL_law_462 : decode cL_law 462 = .ok (.iload 4, 2) := by decide +kernel
theorem dL_law_464 : decode cL_law 464 = .ok (.iconst 1, 1) := by decide +kernel
theorem dL_law_465 : decode cL_law 465 = .ok (.iadd, 1) := by decide +kernel
theorem dL_law_466 : decode cL_law 466 = .ok (.iaload, 1) := by decide +kernel
theorem dL_law_467 : decode cL_law 467 = .ok (.aload_n 0, 1) := by decide +kernel
theorem dL_law_468 : decode cL_law 468 = .ok (.iload 4, 2) := by decide +kernel
theorem dL_law_470 : decode cL_law 470 = .ok (.iconst 2, 1) := by decide +kernel
theorem dL_law_471 : decode cL_law 471 = .ok (.iadd, 1) := by decide +kernel
theorem dL_law_472 : decode cL_law 472 = .ok (.iaload, 1) := by decide +kernel
theorem dL_law_473 : decode cL_law 473 = .ok (.aload_n 3, 1) := by decide +kernel
theorem dL_law_474 : decode cL_law 474 = .ok (.invokestatic 96, 3) := by decide +kernel
theorem dL_law_477 : decode cL_law 477 = .ok (.istore 5, 2) := by decide +kernel
theorem dL_law_479 : decode cL_law 479 = .ok (.aload_n 2, 1) := by decide +kernel
theorem dL_law_480 : decode cL_law 480 = .ok (.aload_n 0, 1) := by decide +kernel
theorem dL_law_481 : decode cL_law 481 = .ok (.iload 4, 2) := by decide +kernel
theorem dL_law_483 : decode cL_law 483 = .ok (.iconst 1, 1) := by decide +kernel
theorem dL_law_484 : decode cL_law 484 = .ok (.iadd, 1) := by decide +kernel
theorem dL_law_485 : decode cL_law 485 = .ok (.iaload, 1) := by decide +kernel
theorem dL_law_486 : decode cL_law 486 = .ok (.aload_n 0, 1) := by decide +kernel
theorem dL_law_487 : decode cL_law 487 = .ok (.iload 4, 2) := by decide +kernel
theorem dL_law_489 : decode cL_law 489 = .ok (.iconst 2, 1) := by decide +kernel
theorem dL_law_490 : decode cL_law 490 = .ok (.iadd, 1) := by decide +kernel
theorem dL_law_491 : decode cL_law 491 = .ok (.iaload, 1) := by decide +kernel
theorem dL_law_492 : decode cL_law 492 = .ok (.invokevirtual 98, 3) := by decide +kernel
theorem dL_law_495 : decode cL_law 495 = .ok (.istore 6, 2) := by decide +kernel
theorem dL_law_497 : decode cL_law 497 = .ok (.aload_n 2, 1) := by decide +kernel
theorem dL_law_498 : decode cL_law 498 = .ok (.invokevirtual 80, 3) := by decide +kernel
theorem dL_law_501 : decode cL_law 501 = .ok (.iload 5, 2) := by decide +kernel
theorem dL_law_503 : decode cL_law 503 = .ok (.if_icmp .eq 5, 3) := by decide +kernel
theorem dL_law_506 : decode cL_law 506 = .ok (.iconst 0, 1) := by decide +kernel
theorem dL_law_507 : decode cL_law 507 = .ok (.ireturn, 1) := by decide +kernel
theorem dL_law_508 : decode cL_law 508 = .ok (.iload 5, 2) := by decide +kernel
theorem dL_law_510 : decode cL_law 510 = .ok (.ifCond .ne 15, 3) := by decide +kernel
theorem dL_law_513 : decode cL_law 513 = .ok (.aload_n 3, 1) := by decide +kernel
theorem dL_law_514 : decode cL_law 514 = .ok (.iconst 0, 1) := by decide +kernel
theorem dL_law_515 : decode cL_law 515 = .ok (.laload, 1) := by decide +kernel
theorem dL_law_516 : decode cL_law 516 = .ok (.iload 6, 2) := by decide +kernel
theorem dL_law_518 : decode cL_law 518 = .ok (.i2l, 1) := by decide +kernel
theorem dL_law_519 : decode cL_law 519 = .ok (.lcmp, 1) := by decide +kernel
theorem dL_law_520 : decode cL_law 520 = .ok (.ifCond .eq 5, 3) := by decide +kernel
theorem dL_law_523 : decode cL_law 523 = .ok (.iconst 0, 1) := by decide +kernel
theorem dL_law_524 : decode cL_law 524 = .ok (.ireturn, 1) := by decide +kernel
theorem dL_law_525 : decode cL_law 525 = .ok (.goto 735, 3) := by decide +kernel
theorem dL_law_528 : decode cL_law 528 = .ok (.aload_n 1, 1) := by decide +kernel
theorem dL_law_529 : decode cL_law 529 = .ok (.aload_n 0, 1) := by decide +kernel
theorem dL_law_530 : decode cL_law 530 = .ok (.iload 4, 2) := by decide +kernel
theorem dL_law_532 : decode cL_law 532 = .ok (.iconst 1, 1) := by decide +kernel
theorem dL_law_533 : decode cL_law 533 = .ok (.iadd, 1) := by decide +kernel
theorem dL_law_534 : decode cL_law 534 = .ok (.iaload, 1) := by decide +kernel
theorem dL_law_535 : decode cL_law 535 = .ok (.aload_n 0, 1) := by decide +kernel
theorem dL_law_536 : decode cL_law 536 = .ok (.iload 4, 2) := by decide +kernel
theorem dL_law_538 : decode cL_law 538 = .ok (.iconst 2, 1) := by decide +kernel
theorem dL_law_539 : decode cL_law 539 = .ok (.iadd, 1) := by decide +kernel
theorem dL_law_540 : decode cL_law 540 = .ok (.iaload, 1) := by decide +kernel
theorem dL_law_541 : decode cL_law 541 = .ok (.aload_n 3, 1) := by decide +kernel
theorem dL_law_542 : decode cL_law 542 = .ok (.invokestatic 99, 3) := by decide +kernel
theorem dL_law_545 : decode cL_law 545 = .ok (.istore 5, 2) := by decide +kernel
theorem dL_law_547 : decode cL_law 547 = .ok (.aload_n 2, 1) := by decide +kernel
theorem dL_law_548 : decode cL_law 548 = .ok (.aload_n 0, 1) := by decide +kernel
theorem dL_law_549 : decode cL_law 549 = .ok (.iload 4, 2) := by decide +kernel
theorem dL_law_551 : decode cL_law 551 = .ok (.iconst 1, 1) := by decide +kernel
theorem dL_law_552 : decode cL_law 552 = .ok (.iadd, 1) := by decide +kernel
theorem dL_law_553 : decode cL_law 553 = .ok (.iaload, 1) := by decide +kernel
theorem dL_law_554 : decode cL_law 554 = .ok (.aload_n 0, 1) := by decide +kernel
theorem dL_law_555 : decode cL_law 555 = .ok (.iload 4, 2) := by decide +kernel
theorem dL_law_557 : decode cL_law 557 = .ok (.iconst 2, 1) := by decide +kernel
theorem dL_law_558 : decode cL_law 558 = .ok (.iadd, 1) := by decide +kernel
theorem dL_law_559 : decode cL_law 559 = .ok (.iaload, 1) := by decide +kernel
theorem dL_law_560 : decode cL_law 560 = .ok (.invokevirtual 101, 3) := by decide +kernel
theorem dL_law_563 : decode cL_law 563 = .ok (.istore 6, 2) := by decide +kernel
theorem dL_law_565 : decode cL_law 565 = .ok (.aload_n 2, 1) := by decide +kernel
theorem dL_law_566 : decode cL_law 566 = .ok (.invokevirtual 80, 3) := by decide +kernel
theorem dL_law_569 : decode cL_law 569 = .ok (.iload 5, 2) := by decide +kernel
theorem dL_law_571 : decode cL_law 571 = .ok (.if_icmp .eq 5, 3) := by decide +kernel
theorem dL_law_574 : decode cL_law 574 = .ok (.iconst 0, 1) := by decide +kernel
theorem dL_law_575 : decode cL_law 575 = .ok (.ireturn, 1) := by decide +kernel
theorem dL_law_576 : decode cL_law 576 = .ok (.iload 5, 2) := by decide +kernel
theorem dL_law_578 : decode cL_law 578 = .ok (.ifCond .ne 15, 3) := by decide +kernel
theorem dL_law_581 : decode cL_law 581 = .ok (.aload_n 3, 1) := by decide +kernel
theorem dL_law_582 : decode cL_law 582 = .ok (.iconst 0, 1) := by decide +kernel
theorem dL_law_583 : decode cL_law 583 = .ok (.laload, 1) := by decide +kernel
theorem dL_law_584 : decode cL_law 584 = .ok (.iload 6, 2) := by decide +kernel
theorem dL_law_586 : decode cL_law 586 = .ok (.i2l, 1) := by decide +kernel
theorem dL_law_587 : decode cL_law 587 = .ok (.lcmp, 1) := by decide +kernel
theorem dL_law_588 : decode cL_law 588 = .ok (.ifCond .eq 5, 3) := by decide +kernel
theorem dL_law_591 : decode cL_law 591 = .ok (.iconst 0, 1) := by decide +kernel
theorem dL_law_592 : decode cL_law 592 = .ok (.ireturn, 1) := by decide +kernel
theorem dL_law_593 : decode cL_law 593 = .ok (.goto 667, 3) := by decide +kernel
theorem dL_law_596 : decode cL_law 596 = .ok (.aload_n 1, 1) := by decide +kernel
theorem dL_law_597 : decode cL_law 597 = .ok (.aload_n 0, 1) := by decide +kernel
theorem dL_law_598 : decode cL_law 598 = .ok (.iload 4, 2) := by decide +kernel
theorem dL_law_600 : decode cL_law 600 = .ok (.iconst 1, 1) := by decide +kernel
theorem dL_law_601 : decode cL_law 601 = .ok (.iadd, 1) := by decide +kernel
theorem dL_law_602 : decode cL_law 602 = .ok (.iaload, 1) := by decide +kernel
theorem dL_law_603 : decode cL_law 603 = .ok (.aload_n 3, 1) := by decide +kernel
theorem dL_law_604 : decode cL_law 604 = .ok (.invokestatic 102, 3) := by decide +kernel
theorem dL_law_607 : decode cL_law 607 = .ok (.istore 5, 2) := by decide +kernel
theorem dL_law_609 : decode cL_law 609 = .ok (.aload_n 2, 1) := by decide +kernel
theorem dL_law_610 : decode cL_law 610 = .ok (.aload_n 0, 1) := by decide +kernel
theorem dL_law_611 : decode cL_law 611 = .ok (.iload 4, 2) := by decide +kernel
theorem dL_law_613 : decode cL_law 613 = .ok (.iconst 1, 1) := by decide +kernel
theorem dL_law_614 : decode cL_law 614 = .ok (.iadd, 1) := by decide +kernel
theorem dL_law_615 : decode cL_law 615 = .ok (.iaload, 1) := by decide +kernel
theorem dL_law_616 : decode cL_law 616 = .ok (.invokevirtual 104, 3) := by decide +kernel
theorem dL_law_619 : decode cL_law 619 = .ok (.istore 6, 2) := by decide +kernel
theorem dL_law_621 : decode cL_law 621 = .ok (.aload_n 2, 1) := by decide +kernel
theorem dL_law_622 : decode cL_law 622 = .ok (.invokevirtual 80, 3) := by decide +kernel
theorem dL_law_625 : decode cL_law 625 = .ok (.iload 5, 2) := by decide +kernel
theorem dL_law_627 : decode cL_law 627 = .ok (.if_icmp .eq 5, 3) := by decide +kernel
theorem dL_law_630 : decode cL_law 630 = .ok (.iconst 0, 1) := by decide +kernel
theorem dL_law_631 : decode cL_law 631 = .ok (.ireturn, 1) := by decide +kernel
theorem dL_law_632 : decode cL_law 632 = .ok (.iload 5, 2) := by decide +kernel
theorem dL_law_634 : decode cL_law 634 = .ok (.ifCond .ne 15, 3) := by decide +kernel
theorem dL_law_637 : decode cL_law 637 = .ok (.aload_n 3, 1) := by decide +kernel
theorem dL_law_638 : decode cL_law 638 = .ok (.iconst 0, 1) := by decide +kernel
theorem dL_law_639 : decode cL_law 639 = .ok (.laload, 1) := by decide +kernel
theorem dL_law_640 : decode cL_law 640 = .ok (.iload 6, 2) := by decide +kernel
theorem dL_law_642 : decode cL_law 642 = .ok (.i2l, 1) := by decide +kernel
theorem dL_law_643 : decode cL_law 643 = .ok (.lcmp, 1) := by decide +kernel
theorem dL_law_644 : decode cL_law 644 = .ok (.ifCond .eq 5, 3) := by decide +kernel
theorem dL_law_647 : decode cL_law 647 = .ok (.iconst 0, 1) := by decide +kernel
theorem dL_law_648 : decode cL_law 648 = .ok (.ireturn, 1) := by decide +kernel
theorem dL_law_649 : decode cL_law 649 = .ok (.goto 611, 3) := by decide +kernel
theorem dL_law_652 : decode cL_law 652 = .ok (.aload_n 1, 1) := by decide +kernel
theorem dL_law_653 : decode cL_law 653 = .ok (.aload_n 0, 1) := by decide +kernel
theorem dL_law_654 : decode cL_law 654 = .ok (.iload 4, 2) := by decide +kernel
theorem dL_law_656 : decode cL_law 656 = .ok (.iconst 1, 1) := by decide +kernel
theorem dL_law_657 : decode cL_law 657 = .ok (.iadd, 1) := by decide +kernel
theorem dL_law_658 : decode cL_law 658 = .ok (.iaload, 1) := by decide +kernel
theorem dL_law_659 : decode cL_law 659 = .ok (.aload_n 0, 1) := by decide +kernel
theorem dL_law_660 : decode cL_law 660 = .ok (.iload 4, 2) := by decide +kernel
theorem dL_law_662 : decode cL_law 662 = .ok (.iconst 2, 1) := by decide +kernel
theorem dL_law_663 : decode cL_law 663 = .ok (.iadd, 1) := by decide +kernel
theorem dL_law_664 : decode cL_law 664 = .ok (.iaload, 1) := by decide +kernel
theorem dL_law_665 : decode cL_law 665 = .ok (.aload_n 3, 1) := by decide +kernel
theorem dL_law_666 : decode cL_law 666 = .ok (.invokestatic 105, 3) := by decide +kernel
theorem dL_law_669 : decode cL_law 669 = .ok (.istore 5, 2) := by decide +kernel
theorem dL_law_671 : decode cL_law 671 = .ok (.aload_n 2, 1) := by decide +kernel
theorem dL_law_672 : decode cL_law 672 = .ok (.aload_n 0, 1) := by decide +kernel
theorem dL_law_673 : decode cL_law 673 = .ok (.iload 4, 2) := by decide +kernel
theorem dL_law_675 : decode cL_law 675 = .ok (.iconst 1, 1) := by decide +kernel
theorem dL_law_676 : decode cL_law 676 = .ok (.iadd, 1) := by decide +kernel
theorem dL_law_677 : decode cL_law 677 = .ok (.iaload, 1) := by decide +kernel
theorem dL_law_678 : decode cL_law 678 = .ok (.aload_n 0, 1) := by decide +kernel
theorem dL_law_679 : decode cL_law 679 = .ok (.iload 4, 2) := by decide +kernel
theorem dL_law_681 : decode cL_law 681 = .ok (.iconst 2, 1) := by decide +kernel
theorem dL_law_682 : decode cL_law 682 = .ok (.iadd, 1) := by decide +kernel
theorem dL_law_683 : decode cL_law 683 = .ok (.iaload, 1) := by decide +kernel
theorem dL_law_684 : decode cL_law 684 = .ok (.invokevirtual 107, 3) := by decide +kernel
theorem dL_law_687 : decode cL_law 687 = .ok (.istore 6, 2) := by decide +kernel
theorem dL_law_689 : decode cL_law 689 = .ok (.aload_n 2, 1) := by decide +kernel
theorem dL_law_690 : decode cL_law 690 = .ok (.invokevirtual 80, 3) := by decide +kernel
theorem dL_law_693 : decode cL_law 693 = .ok (.iload 5, 2) := by decide +kernel
theorem dL_law_695 : decode cL_law 695 = .ok (.if_icmp .eq 5, 3) := by decide +kernel
theorem dL_law_698 : decode cL_law 698 = .ok (.iconst 0, 1) := by decide +kernel
theorem dL_law_699 : decode cL_law 699 = .ok (.ireturn, 1) := by decide +kernel
theorem dL_law_700 : decode cL_law 700 = .ok (.iload 5, 2) := by decide +kernel
theorem dL_law_702 : decode cL_law 702 = .ok (.ifCond .ne 15, 3) := by decide +kernel
theorem dL_law_705 : decode cL_law 705 = .ok (.aload_n 3, 1) := by decide +kernel
theorem dL_law_706 : decode cL_law 706 = .ok (.iconst 0, 1) := by decide +kernel
theorem dL_law_707 : decode cL_law 707 = .ok (.laload, 1) := by decide +kernel
theorem dL_law_708 : decode cL_law 708 = .ok (.iload 6, 2) := by decide +kernel
theorem dL_law_710 : decode cL_law 710 = .ok (.i2l, 1) := by decide +kernel
theorem dL_law_711 : decode cL_law 711 = .ok (.lcmp, 1) := by decide +kernel
theorem dL_law_712 : decode cL_law 712 = .ok (.ifCond .eq 5, 3) := by decide +kernel
theorem dL_law_715 : decode cL_law 715 = .ok (.iconst 0, 1) := by decide +kernel
theorem dL_law_716 : decode cL_law 716 = .ok (.ireturn, 1) := by decide +kernel
theorem dL_law_717 : decode cL_law 717 = .ok (.goto 543, 3) := by decide +kernel
theorem dL_law_720 : decode cL_law 720 = .ok (.aload_n 1, 1) := by decide +kernel
theorem dL_law_721 : decode cL_law 721 = .ok (.aload_n 0, 1) := by decide +kernel
theorem dL_law_722 : decode cL_law 722 = .ok (.iload 4, 2) := by decide +kernel
theorem dL_law_724 : decode cL_law 724 = .ok (.iconst 1, 1) := by decide +kernel
theorem dL_law_725 : decode cL_law 725 = .ok (.iadd, 1) := by decide +kernel
theorem dL_law_726 : decode cL_law 726 = .ok (.iaload, 1) := by decide +kernel
theorem dL_law_727 : decode cL_law 727 = .ok (.aload_n 3, 1) := by decide +kernel
theorem dL_law_728 : decode cL_law 728 = .ok (.invokestatic 108, 3) := by decide +kernel
theorem dL_law_731 : decode cL_law 731 = .ok (.istore 5, 2) := by decide +kernel
theorem dL_law_733 : decode cL_law 733 = .ok (.aload_n 2, 1) := by decide +kernel
theorem dL_law_734 : decode cL_law 734 = .ok (.aload_n 0, 1) := by decide +kernel
theorem dL_law_735 : decode cL_law 735 = .ok (.iload 4, 2) := by decide +kernel
theorem dL_law_737 : decode cL_law 737 = .ok (.iconst 1, 1) := by decide +kernel
theorem dL_law_738 : decode cL_law 738 = .ok (.iadd, 1) := by decide +kernel
theorem dL_law_739 : decode cL_law 739 = .ok (.iaload, 1) := by decide +kernel
theorem dL_law_740 : decode cL_law 740 = .ok (.invokevirtual 110, 3) := by decide +kernel
theorem dL_law_743 : decode cL_law 743 = .ok (.istore 6, 2) := by decide +kernel
theorem dL_law_745 : decode cL_law 745 = .ok (.aload_n 2, 1) := by decide +kernel
theorem dL_law_746 : decode cL_law 746 = .ok (.invokevirtual 80, 3) := by decide +kernel
theorem dL_law_749 : decode cL_law 749 = .ok (.iload 5, 2) := by decide +kernel
theorem dL_law_751 : decode cL_law 751 = .ok (.if_icmp .eq 5, 3) := by decide +kernel
theorem dL_law_754 : decode cL_law 754 = .ok (.iconst 0, 1) := by decide +kernel
theorem dL_law_755 : decode cL_law 755 = .ok (.ireturn, 1) := by decide +kernel
theorem dL_law_756 : decode cL_law 756 = .ok (.iload 5, 2) := by decide +kernel
theorem dL_law_758 : decode cL_law 758 = .ok (.ifCond .ne 15, 3) := by decide +kernel
theorem dL_law_761 : decode cL_law 761 = .ok (.aload_n 3, 1) := by decide +kernel
theorem dL_law_762 : decode cL_law 762 = .ok (.iconst 0, 1) := by decide +kernel
theorem dL_law_763 : decode cL_law 763 = .ok (.laload, 1) := by decide +kernel
theorem dL_law_764 : decode cL_law 764 = .ok (.iload 6, 2) := by decide +kernel
theorem dL_law_766 : decode cL_law 766 = .ok (.i2l, 1) := by decide +kernel
theorem dL_law_767 : decode cL_law 767 = .ok (.lcmp, 1) := by decide +kernel
theorem dL_law_768 : decode cL_law 768 = .ok (.ifCond .eq 5, 3) := by decide +kernel
theorem dL_law_771 : decode cL_law 771 = .ok (.iconst 0, 1) := by decide +kernel
theorem dL_law_772 : decode cL_law 772 = .ok (.ireturn, 1) := by decide +kernel
theorem dL_law_773 : decode cL_law 773 = .ok (.goto 487, 3) := by decide +kernel
theorem dL_law_776 : decode cL_law 776 = .ok (.aload_n 1, 1) := by decide +kernel
theorem dL_law_777 : decode cL_law 777 = .ok (.aload_n 0, 1) := by decide +kernel
theorem dL_law_778 : decode cL_law 778 = .ok (.iload 4, 2) := by decide +kernel
theorem dL_law_780 : decode cL_law 780 = .ok (.iconst 1, 1) := by decide +kernel
theorem dL_law_781 : decode cL_law 781 = .ok (.iadd, 1) := by decide +kernel
theorem dL_law_782 : decode cL_law 782 = .ok (.iaload, 1) := by decide +kernel
theorem dL_law_783 : decode cL_law 783 = .ok (.aload_n 3, 1) := by decide +kernel
theorem dL_law_784 : decode cL_law 784 = .ok (.invokestatic 111, 3) := by decide +kernel
theorem dL_law_787 : decode cL_law 787 = .ok (.istore 5, 2) := by decide +kernel
theorem dL_law_789 : decode cL_law 789 = .ok (.aload_n 2, 1) := by decide +kernel
theorem dL_law_790 : decode cL_law 790 = .ok (.aload_n 0, 1) := by decide +kernel
theorem dL_law_791 : decode cL_law 791 = .ok (.iload 4, 2) := by decide +kernel
theorem dL_law_793 : decode cL_law 793 = .ok (.iconst 1, 1) := by decide +kernel
theorem dL_law_794 : decode cL_law 794 = .ok (.iadd, 1) := by decide +kernel
theorem dL_law_795 : decode cL_law 795 = .ok (.iaload, 1) := by decide +kernel
theorem dL_law_796 : decode cL_law 796 = .ok (.invokevirtual 113, 3) := by decide +kernel
theorem dL_law_799 : decode cL_law 799 = .ok (.istore 6, 2) := by decide +kernel
theorem dL_law_801 : decode cL_law 801 = .ok (.aload_n 2, 1) := by decide +kernel
theorem dL_law_802 : decode cL_law 802 = .ok (.invokevirtual 80, 3) := by decide +kernel
theorem dL_law_805 : decode cL_law 805 = .ok (.iload 5, 2) := by decide +kernel
theorem dL_law_807 : decode cL_law 807 = .ok (.if_icmp .eq 5, 3) := by decide +kernel
theorem dL_law_810 : decode cL_law 810 = .ok (.iconst 0, 1) := by decide +kernel
theorem dL_law_811 : decode cL_law 811 = .ok (.ireturn, 1) := by decide +kernel
theorem dL_law_812 : decode cL_law 812 = .ok (.iload 5, 2) := by decide +kernel
theorem dL_law_814 : decode cL_law 814 = .ok (.ifCond .ne 15, 3) := by decide +kernel
theorem dL_law_817 : decode cL_law 817 = .ok (.aload_n 3, 1) := by decide +kernel
theorem dL_law_818 : decode cL_law 818 = .ok (.iconst 0, 1) := by decide +kernel
theorem dL_law_819 : decode cL_law 819 = .ok (.laload, 1) := by decide +kernel
theorem dL_law_820 : decode cL_law 820 = .ok (.iload 6, 2) := by decide +kernel
theorem dL_law_822 : decode cL_law 822 = .ok (.i2l, 1) := by decide +kernel
theorem dL_law_823 : decode cL_law 823 = .ok (.lcmp, 1) := by decide +kernel
theorem dL_law_824 : decode cL_law 824 = .ok (.ifCond .eq 5, 3) := by decide +kernel
theorem dL_law_827 : decode cL_law 827 = .ok (.iconst 0, 1) := by decide +kernel
theorem dL_law_828 : decode cL_law 828 = .ok (.ireturn, 1) := by decide +kernel
theorem dL_law_829 : decode cL_law 829 = .ok (.goto 431, 3) := by decide +kernel
theorem dL_law_832 : decode cL_law 832 = .ok (.aload_n 1, 1) := by decide +kernel
theorem dL_law_833 : decode cL_law 833 = .ok (.aload_n 0, 1) := by decide +kernel
theorem dL_law_834 : decode cL_law 834 = .ok (.iload 4, 2) := by decide +kernel
theorem dL_law_836 : decode cL_law 836 = .ok (.iconst 1, 1) := by decide +kernel
theorem dL_law_837 : decode cL_law 837 = .ok (.iadd, 1) := by decide +kernel
theorem dL_law_838 : decode cL_law 838 = .ok (.iaload, 1) := by decide +kernel
theorem dL_law_839 : decode cL_law 839 = .ok (.aload_n 3, 1) := by decide +kernel
theorem dL_law_840 : decode cL_law 840 = .ok (.invokestatic 114, 3) := by decide +kernel
theorem dL_law_843 : decode cL_law 843 = .ok (.istore 5, 2) := by decide +kernel
theorem dL_law_845 : decode cL_law 845 = .ok (.aload_n 2, 1) := by decide +kernel
theorem dL_law_846 : decode cL_law 846 = .ok (.aload_n 0, 1) := by decide +kernel
theorem dL_law_847 : decode cL_law 847 = .ok (.iload 4, 2) := by decide +kernel
theorem dL_law_849 : decode cL_law 849 = .ok (.iconst 1, 1) := by decide +kernel
theorem dL_law_850 : decode cL_law 850 = .ok (.iadd, 1) := by decide +kernel
theorem dL_law_851 : decode cL_law 851 = .ok (.iaload, 1) := by decide +kernel
theorem dL_law_852 : decode cL_law 852 = .ok (.invokevirtual 116, 3) := by decide +kernel
theorem dL_law_855 : decode cL_law 855 = .ok (.istore 6, 2) := by decide +kernel
theorem dL_law_857 : decode cL_law 857 = .ok (.aload_n 2, 1) := by decide +kernel
theorem dL_law_858 : decode cL_law 858 = .ok (.invokevirtual 80, 3) := by decide +kernel
theorem dL_law_861 : decode cL_law 861 = .ok (.iload 5, 2) := by decide +kernel
theorem dL_law_863 : decode cL_law 863 = .ok (.if_icmp .eq 5, 3) := by decide +kernel
theorem dL_law_866 : decode cL_law 866 = .ok (.iconst 0, 1) := by decide +kernel
theorem dL_law_867 : decode cL_law 867 = .ok (.ireturn, 1) := by decide +kernel
theorem dL_law_868 : decode cL_law 868 = .ok (.iload 5, 2) := by decide +kernel
theorem dL_law_870 : decode cL_law 870 = .ok (.ifCond .ne 15, 3) := by decide +kernel
theorem dL_law_873 : decode cL_law 873 = .ok (.aload_n 3, 1) := by decide +kernel
theorem dL_law_874 : decode cL_law 874 = .ok (.iconst 0, 1) := by decide +kernel
theorem dL_law_875 : decode cL_law 875 = .ok (.laload, 1) := by decide +kernel
theorem dL_law_876 : decode cL_law 876 = .ok (.iload 6, 2) := by decide +kernel
theorem dL_law_878 : decode cL_law 878 = .ok (.i2l, 1) := by decide +kernel
theorem dL_law_879 : decode cL_law 879 = .ok (.lcmp, 1) := by decide +kernel
theorem dL_law_880 : decode cL_law 880 = .ok (.ifCond .eq 5, 3) := by decide +kernel
theorem dL_law_883 : decode cL_law 883 = .ok (.iconst 0, 1) := by decide +kernel
theorem dL_law_884 : decode cL_law 884 = .ok (.ireturn, 1) := by decide +kernel
theorem dL_law_885 : decode cL_law 885 = .ok (.goto 375, 3) := by decide +kernel
theorem dL_law_888 : decode cL_law 888 = .ok (.aload_n 1, 1) := by decide +kernel
theorem dL_law_889 : decode cL_law 889 = .ok (.aload_n 0, 1) := by decide +kernel
theorem dL_law_890 : decode cL_law 890 = .ok (.iload 4, 2) := by decide +kernel
theorem dL_law_892 : decode cL_law 892 = .ok (.iconst 1, 1) := by decide +kernel
theorem dL_law_893 : decode cL_law 893 = .ok (.iadd, 1) := by decide +kernel
theorem dL_law_894 : decode cL_law 894 = .ok (.iaload, 1) := by decide +kernel
theorem dL_law_895 : decode cL_law 895 = .ok (.aload_n 3, 1) := by decide +kernel
theorem dL_law_896 : decode cL_law 896 = .ok (.invokestatic 117, 3) := by decide +kernel
theorem dL_law_899 : decode cL_law 899 = .ok (.istore 5, 2) := by decide +kernel
theorem dL_law_901 : decode cL_law 901 = .ok (.aload_n 2, 1) := by decide +kernel
theorem dL_law_902 : decode cL_law 902 = .ok (.aload_n 0, 1) := by decide +kernel
theorem dL_law_903 : decode cL_law 903 = .ok (.iload 4, 2) := by decide +kernel
theorem dL_law_905 : decode cL_law 905 = .ok (.iconst 1, 1) := by decide +kernel
theorem dL_law_906 : decode cL_law 906 = .ok (.iadd, 1) := by decide +kernel
theorem dL_law_907 : decode cL_law 907 = .ok (.iaload, 1) := by decide +kernel
theorem dL_law_908 : decode cL_law 908 = .ok (.invokevirtual 119, 3) := by decide +kernel
theorem dL_law_911 : decode cL_law 911 = .ok (.istore 6, 2) := by decide +kernel
theorem dL_law_913 : decode cL_law 913 = .ok (.aload_n 2, 1) := by decide +kernel
theorem dL_law_914 : decode cL_law 914 = .ok (.invokevirtual 80, 3) := by decide +kernel
theorem dL_law_917 : decode cL_law 917 = .ok (.iload 5, 2) := by decide +kernel
theorem dL_law_919 : decode cL_law 919 = .ok (.if_icmp .eq 5, 3) := by decide +kernel
theorem dL_law_922 : decode cL_law 922 = .ok (.iconst 0, 1) := by decide +kernel
theorem dL_law_923 : decode cL_law 923 = .ok (.ireturn, 1) := by decide +kernel
theorem dL_law_924 : decode cL_law 924 = .ok (.iload 5, 2) := by decide +kernel
theorem dL_law_926 : decode cL_law 926 = .ok (.ifCond .ne 15, 3) := by decide +kernel
theorem dL_law_929 : decode cL_law 929 = .ok (.aload_n 3, 1) := by decide +kernel
theorem dL_law_930 : decode cL_law 930 = .ok (.iconst 0, 1) := by decide +kernel
theorem dL_law_931 : decode cL_law 931 = .ok (.laload, 1) := by decide +kernel
theorem dL_law_932 : decode cL_law 932 = .ok (.iload 6, 2) := by decide +kernel
theorem dL_law_934 : decode cL_law 934 = .ok (.i2l, 1) := by decide +kernel
theorem dL_law_935 : decode cL_law 935 = .ok (.lcmp, 1) := by decide +kernel
theorem dL_law_936 : decode cL_law 936 = .ok (.ifCond .eq 5, 3) := by decide +kernel
theorem dL_law_939 : decode cL_law 939 = .ok (.iconst 0, 1) := by decide +kernel
theorem dL_law_940 : decode cL_law 940 = .ok (.ireturn, 1) := by decide +kernel
theorem dL_law_941 : decode cL_law 941 = .ok (.goto 319, 3) := by decide +kernel
theorem dL_law_944 : decode cL_law 944 = .ok (.aload_n 1, 1) := by decide +kernel
theorem dL_law_945 : decode cL_law 945 = .ok (.aload_n 0, 1) := by decide +kernel
theorem dL_law_946 : decode cL_law 946 = .ok (.iload 4, 2) := by decide +kernel
theorem dL_law_948 : decode cL_law 948 = .ok (.iconst 1, 1) := by decide +kernel
theorem dL_law_949 : decode cL_law 949 = .ok (.iadd, 1) := by decide +kernel
theorem dL_law_950 : decode cL_law 950 = .ok (.iaload, 1) := by decide +kernel
theorem dL_law_951 : decode cL_law 951 = .ok (.aload_n 3, 1) := by decide +kernel
theorem dL_law_952 : decode cL_law 952 = .ok (.invokestatic 120, 3) := by decide +kernel
theorem dL_law_955 : decode cL_law 955 = .ok (.istore 5, 2) := by decide +kernel
theorem dL_law_957 : decode cL_law 957 = .ok (.aload_n 2, 1) := by decide +kernel
theorem dL_law_958 : decode cL_law 958 = .ok (.aload_n 0, 1) := by decide +kernel
theorem dL_law_959 : decode cL_law 959 = .ok (.iload 4, 2) := by decide +kernel
theorem dL_law_961 : decode cL_law 961 = .ok (.iconst 1, 1) := by decide +kernel
theorem dL_law_962 : decode cL_law 962 = .ok (.iadd, 1) := by decide +kernel
theorem dL_law_963 : decode cL_law 963 = .ok (.iaload, 1) := by decide +kernel
theorem dL_law_964 : decode cL_law 964 = .ok (.invokevirtual 122, 3) := by decide +kernel
theorem dL_law_967 : decode cL_law 967 = .ok (.istore 6, 2) := by decide +kernel
theorem dL_law_969 : decode cL_law 969 = .ok (.aload_n 2, 1) := by decide +kernel
theorem dL_law_970 : decode cL_law 970 = .ok (.invokevirtual 80, 3) := by decide +kernel
theorem dL_law_973 : decode cL_law 973 = .ok (.iload 5, 2) := by decide +kernel
theorem dL_law_975 : decode cL_law 975 = .ok (.if_icmp .eq 5, 3) := by decide +kernel
theorem dL_law_978 : decode cL_law 978 = .ok (.iconst 0, 1) := by decide +kernel
theorem dL_law_979 : decode cL_law 979 = .ok (.ireturn, 1) := by decide +kernel
theorem dL_law_980 : decode cL_law 980 = .ok (.iload 5, 2) := by decide +kernel
theorem dL_law_982 : decode cL_law 982 = .ok (.ifCond .ne 15, 3) := by decide +kernel
theorem dL_law_985 : decode cL_law 985 = .ok (.aload_n 3, 1) := by decide +kernel
theorem dL_law_986 : decode cL_law 986 = .ok (.iconst 0, 1) := by decide +kernel
theorem dL_law_987 : decode cL_law 987 = .ok (.laload, 1) := by decide +kernel
theorem dL_law_988 : decode cL_law 988 = .ok (.iload 6, 2) := by decide +kernel
theorem dL_law_990 : decode cL_law 990 = .ok (.i2l, 1) := by decide +kernel
theorem dL_law_991 : decode cL_law 991 = .ok (.lcmp, 1) := by decide +kernel
theorem dL_law_992 : decode cL_law 992 = .ok (.ifCond .eq 5, 3) := by decide +kernel
theorem dL_law_995 : decode cL_law 995 = .ok (.iconst 0, 1) := by decide +kernel
theorem dL_law_996 : decode cL_law 996 = .ok (.ireturn, 1) := by decide +kernel
theorem dL_law_997 : decode cL_law 997 = .ok (.goto 263, 3) := by decide +kernel
theorem dL_law_1000 : decode cL_law 1000 = .ok (.aload_n 1, 1) := by decide +kernel
theorem dL_law_1001 : decode cL_law 1001 = .ok (.aload_n 0, 1) := by decide +kernel
theorem dL_law_1002 : decode cL_law 1002 = .ok (.iload 4, 2) := by decide +kernel
theorem dL_law_1004 : decode cL_law 1004 = .ok (.iconst 1, 1) := by decide +kernel
theorem dL_law_1005 : decode cL_law 1005 = .ok (.iadd, 1) := by decide +kernel
theorem dL_law_1006 : decode cL_law 1006 = .ok (.iaload, 1) := by decide +kernel
theorem dL_law_1007 : decode cL_law 1007 = .ok (.aload_n 3, 1) := by decide +kernel
theorem dL_law_1008 : decode cL_law 1008 = .ok (.invokestatic 123, 3) := by decide +kernel
theorem dL_law_1011 : decode cL_law 1011 = .ok (.istore 5, 2) := by decide +kernel
theorem dL_law_1013 : decode cL_law 1013 = .ok (.aload_n 2, 1) := by decide +kernel
theorem dL_law_1014 : decode cL_law 1014 = .ok (.aload_n 0, 1) := by decide +kernel
theorem dL_law_1015 : decode cL_law 1015 = .ok (.iload 4, 2) := by decide +kernel
theorem dL_law_1017 : decode cL_law 1017 = .ok (.iconst 1, 1) := by decide +kernel
theorem dL_law_1018 : decode cL_law 1018 = .ok (.iadd, 1) := by decide +kernel
theorem dL_law_1019 : decode cL_law 1019 = .ok (.iaload, 1) := by decide +kernel
theorem dL_law_1020 : decode cL_law 1020 = .ok (.invokevirtual 125, 3) := by decide +kernel
theorem dL_law_1023 : decode cL_law 1023 = .ok (.istore 6, 2) := by decide +kernel
theorem dL_law_1025 : decode cL_law 1025 = .ok (.aload_n 2, 1) := by decide +kernel
theorem dL_law_1026 : decode cL_law 1026 = .ok (.invokevirtual 80, 3) := by decide +kernel
theorem dL_law_1029 : decode cL_law 1029 = .ok (.iload 5, 2) := by decide +kernel
theorem dL_law_1031 : decode cL_law 1031 = .ok (.if_icmp .eq 5, 3) := by decide +kernel
theorem dL_law_1034 : decode cL_law 1034 = .ok (.iconst 0, 1) := by decide +kernel
theorem dL_law_1035 : decode cL_law 1035 = .ok (.ireturn, 1) := by decide +kernel
theorem dL_law_1036 : decode cL_law 1036 = .ok (.iload 5, 2) := by decide +kernel
theorem dL_law_1038 : decode cL_law 1038 = .ok (.ifCond .ne 15, 3) := by decide +kernel
theorem dL_law_1041 : decode cL_law 1041 = .ok (.aload_n 3, 1) := by decide +kernel
theorem dL_law_1042 : decode cL_law 1042 = .ok (.iconst 0, 1) := by decide +kernel
theorem dL_law_1043 : decode cL_law 1043 = .ok (.laload, 1) := by decide +kernel
theorem dL_law_1044 : decode cL_law 1044 = .ok (.iload 6, 2) := by decide +kernel
theorem dL_law_1046 : decode cL_law 1046 = .ok (.i2l, 1) := by decide +kernel
theorem dL_law_1047 : decode cL_law 1047 = .ok (.lcmp, 1) := by decide +kernel
theorem dL_law_1048 : decode cL_law 1048 = .ok (.ifCond .eq 5, 3) := by decide +kernel
theorem dL_law_1051 : decode cL_law 1051 = .ok (.iconst 0, 1) := by decide +kernel
theorem dL_law_1052 : decode cL_law 1052 = .ok (.ireturn, 1) := by decide +kernel
theorem dL_law_1053 : decode cL_law 1053 = .ok (.goto 207, 3) := by decide +kernel
theorem dL_law_1056 : decode cL_law 1056 = .ok (.aload_n 1, 1) := by decide +kernel
theorem dL_law_1057 : decode cL_law 1057 = .ok (.aload_n 0, 1) := by decide +kernel
theorem dL_law_1058 : decode cL_law 1058 = .ok (.iload 4, 2) := by decide +kernel
theorem dL_law_1060 : decode cL_law 1060 = .ok (.iconst 1, 1) := by decide +kernel
theorem dL_law_1061 : decode cL_law 1061 = .ok (.iadd, 1) := by decide +kernel
theorem dL_law_1062 : decode cL_law 1062 = .ok (.iaload, 1) := by decide +kernel
theorem dL_law_1063 : decode cL_law 1063 = .ok (.aload_n 3, 1) := by decide +kernel
theorem dL_law_1064 : decode cL_law 1064 = .ok (.invokestatic 126, 3) := by decide +kernel
theorem dL_law_1067 : decode cL_law 1067 = .ok (.istore 5, 2) := by decide +kernel
theorem dL_law_1069 : decode cL_law 1069 = .ok (.aload_n 2, 1) := by decide +kernel
theorem dL_law_1070 : decode cL_law 1070 = .ok (.aload_n 0, 1) := by decide +kernel
theorem dL_law_1071 : decode cL_law 1071 = .ok (.iload 4, 2) := by decide +kernel
theorem dL_law_1073 : decode cL_law 1073 = .ok (.iconst 1, 1) := by decide +kernel
theorem dL_law_1074 : decode cL_law 1074 = .ok (.iadd, 1) := by decide +kernel
theorem dL_law_1075 : decode cL_law 1075 = .ok (.iaload, 1) := by decide +kernel
theorem dL_law_1076 : decode cL_law 1076 = .ok (.invokevirtual 128, 3) := by decide +kernel
theorem dL_law_1079 : decode cL_law 1079 = .ok (.istore 6, 2) := by decide +kernel
theorem dL_law_1081 : decode cL_law 1081 = .ok (.aload_n 2, 1) := by decide +kernel
theorem dL_law_1082 : decode cL_law 1082 = .ok (.invokevirtual 80, 3) := by decide +kernel
theorem dL_law_1085 : decode cL_law 1085 = .ok (.iload 5, 2) := by decide +kernel
theorem dL_law_1087 : decode cL_law 1087 = .ok (.if_icmp .eq 5, 3) := by decide +kernel
theorem dL_law_1090 : decode cL_law 1090 = .ok (.iconst 0, 1) := by decide +kernel
theorem dL_law_1091 : decode cL_law 1091 = .ok (.ireturn, 1) := by decide +kernel
theorem dL_law_1092 : decode cL_law 1092 = .ok (.iload 5, 2) := by decide +kernel
theorem dL_law_1094 : decode cL_law 1094 = .ok (.ifCond .ne 15, 3) := by decide +kernel
theorem dL_law_1097 : decode cL_law 1097 = .ok (.aload_n 3, 1) := by decide +kernel
theorem dL_law_1098 : decode cL_law 1098 = .ok (.iconst 0, 1) := by decide +kernel
theorem dL_law_1099 : decode cL_law 1099 = .ok (.laload, 1) := by decide +kernel
theorem dL_law_1100 : decode cL_law 1100 = .ok (.iload 6, 2) := by decide +kernel
theorem dL_law_1102 : decode cL_law 1102 = .ok (.i2l, 1) := by decide +kernel
theorem dL_law_1103 : decode cL_law 1103 = .ok (.lcmp, 1) := by decide +kernel
theorem dL_law_1104 : decode cL_law 1104 = .ok (.ifCond .eq 5, 3) := by decide +kernel
theorem dL_law_1107 : decode cL_law 1107 = .ok (.iconst 0, 1) := by decide +kernel
theorem dL_law_1108 : decode cL_law 1108 = .ok (.ireturn, 1) := by decide +kernel
theorem dL_law_1109 : decode cL_law 1109 = .ok (.goto 151, 3) := by decide +kernel
theorem dL_law_1112 : decode cL_law 1112 = .ok (.aload_n 1, 1) := by decide +kernel
theorem dL_law_1113 : decode cL_law 1113 = .ok (.aload_n 0, 1) := by decide +kernel
theorem dL_law_1114 : decode cL_law 1114 = .ok (.iload 4, 2) := by decide +kernel
theorem dL_law_1116 : decode cL_law 1116 = .ok (.iconst 1, 1) := by decide +kernel
theorem dL_law_1117 : decode cL_law 1117 = .ok (.iadd, 1) := by decide +kernel
theorem dL_law_1118 : decode cL_law 1118 = .ok (.iaload, 1) := by decide +kernel
theorem dL_law_1119 : decode cL_law 1119 = .ok (.aload_n 0, 1) := by decide +kernel
theorem dL_law_1120 : decode cL_law 1120 = .ok (.iload 4, 2) := by decide +kernel
theorem dL_law_1122 : decode cL_law 1122 = .ok (.iconst 2, 1) := by decide +kernel
theorem dL_law_1123 : decode cL_law 1123 = .ok (.iadd, 1) := by decide +kernel
theorem dL_law_1124 : decode cL_law 1124 = .ok (.iaload, 1) := by decide +kernel
theorem dL_law_1125 : decode cL_law 1125 = .ok (.aload_n 3, 1) := by decide +kernel
theorem dL_law_1126 : decode cL_law 1126 = .ok (.invokestatic 129, 3) := by decide +kernel
theorem dL_law_1129 : decode cL_law 1129 = .ok (.istore 5, 2) := by decide +kernel
theorem dL_law_1131 : decode cL_law 1131 = .ok (.aload_n 2, 1) := by decide +kernel
theorem dL_law_1132 : decode cL_law 1132 = .ok (.aload_n 0, 1) := by decide +kernel
theorem dL_law_1133 : decode cL_law 1133 = .ok (.iload 4, 2) := by decide +kernel
theorem dL_law_1135 : decode cL_law 1135 = .ok (.iconst 1, 1) := by decide +kernel
theorem dL_law_1136 : decode cL_law 1136 = .ok (.iadd, 1) := by decide +kernel
theorem dL_law_1137 : decode cL_law 1137 = .ok (.iaload, 1) := by decide +kernel
theorem dL_law_1138 : decode cL_law 1138 = .ok (.aload_n 0, 1) := by decide +kernel
theorem dL_law_1139 : decode cL_law 1139 = .ok (.iload 4, 2) := by decide +kernel
theorem dL_law_1141 : decode cL_law 1141 = .ok (.iconst 2, 1) := by decide +kernel
theorem dL_law_1142 : decode cL_law 1142 = .ok (.iadd, 1) := by decide +kernel
theorem dL_law_1143 : decode cL_law 1143 = .ok (.iaload, 1) := by decide +kernel
theorem dL_law_1144 : decode cL_law 1144 = .ok (.invokevirtual 131, 3) := by decide +kernel
theorem dL_law_1147 : decode cL_law 1147 = .ok (.istore 6, 2) := by decide +kernel
theorem dL_law_1149 : decode cL_law 1149 = .ok (.aload_n 2, 1) := by decide +kernel
theorem dL_law_1150 : decode cL_law 1150 = .ok (.invokevirtual 80, 3) := by decide +kernel
theorem dL_law_1153 : decode cL_law 1153 = .ok (.iload 5, 2) := by decide +kernel
theorem dL_law_1155 : decode cL_law 1155 = .ok (.if_icmp .eq 5, 3) := by decide +kernel
theorem dL_law_1158 : decode cL_law 1158 = .ok (.iconst 0, 1) := by decide +kernel
theorem dL_law_1159 : decode cL_law 1159 = .ok (.ireturn, 1) := by decide +kernel
theorem dL_law_1160 : decode cL_law 1160 = .ok (.iload 5, 2) := by decide +kernel
theorem dL_law_1162 : decode cL_law 1162 = .ok (.ifCond .ne 15, 3) := by decide +kernel
theorem dL_law_1165 : decode cL_law 1165 = .ok (.aload_n 3, 1) := by decide +kernel
theorem dL_law_1166 : decode cL_law 1166 = .ok (.iconst 0, 1) := by decide +kernel
theorem dL_law_1167 : decode cL_law 1167 = .ok (.laload, 1) := by decide +kernel
theorem dL_law_1168 : decode cL_law 1168 = .ok (.iload 6, 2) := by decide +kernel
theorem dL_law_1170 : decode cL_law 1170 = .ok (.i2l, 1) := by decide +kernel
theorem dL_law_1171 : decode cL_law 1171 = .ok (.lcmp, 1) := by decide +kernel
theorem dL_law_1172 : decode cL_law 1172 = .ok (.ifCond .eq 5, 3) := by decide +kernel
theorem dL_law_1175 : decode cL_law 1175 = .ok (.iconst 0, 1) := by decide +kernel
theorem dL_law_1176 : decode cL_law 1176 = .ok (.ireturn, 1) := by decide +kernel
theorem dL_law_1177 : decode cL_law 1177 = .ok (.goto 83, 3) := by decide +kernel
theorem dL_law_1180 : decode cL_law 1180 = .ok (.aload_n 1, 1) := by decide +kernel
theorem dL_law_1181 : decode cL_law 1181 = .ok (.aload_n 0, 1) := by decide +kernel
theorem dL_law_1182 : decode cL_law 1182 = .ok (.iload 4, 2) := by decide +kernel
theorem dL_law_1184 : decode cL_law 1184 = .ok (.iconst 1, 1) := by decide +kernel
theorem dL_law_1185 : decode cL_law 1185 = .ok (.iadd, 1) := by decide +kernel
theorem dL_law_1186 : decode cL_law 1186 = .ok (.iaload, 1) := by decide +kernel
theorem dL_law_1187 : decode cL_law 1187 = .ok (.aload_n 0, 1) := by decide +kernel
theorem dL_law_1188 : decode cL_law 1188 = .ok (.iload 4, 2) := by decide +kernel
theorem dL_law_1190 : decode cL_law 1190 = .ok (.iconst 2, 1) := by decide +kernel
theorem dL_law_1191 : decode cL_law 1191 = .ok (.iadd, 1) := by decide +kernel
theorem dL_law_1192 : decode cL_law 1192 = .ok (.iaload, 1) := by decide +kernel
theorem dL_law_1193 : decode cL_law 1193 = .ok (.aload_n 0, 1) := by decide +kernel
theorem dL_law_1194 : decode cL_law 1194 = .ok (.iload 4, 2) := by decide +kernel
theorem dL_law_1196 : decode cL_law 1196 = .ok (.iconst 3, 1) := by decide +kernel
theorem dL_law_1197 : decode cL_law 1197 = .ok (.iadd, 1) := by decide +kernel
theorem dL_law_1198 : decode cL_law 1198 = .ok (.iaload, 1) := by decide +kernel
theorem dL_law_1199 : decode cL_law 1199 = .ok (.aload_n 3, 1) := by decide +kernel
theorem dL_law_1200 : decode cL_law 1200 = .ok (.invokestatic 132, 3) := by decide +kernel
theorem dL_law_1203 : decode cL_law 1203 = .ok (.istore 5, 2) := by decide +kernel
theorem dL_law_1205 : decode cL_law 1205 = .ok (.aload_n 2, 1) := by decide +kernel
theorem dL_law_1206 : decode cL_law 1206 = .ok (.aload_n 0, 1) := by decide +kernel
theorem dL_law_1207 : decode cL_law 1207 = .ok (.iload 4, 2) := by decide +kernel
theorem dL_law_1209 : decode cL_law 1209 = .ok (.iconst 1, 1) := by decide +kernel
theorem dL_law_1210 : decode cL_law 1210 = .ok (.iadd, 1) := by decide +kernel
theorem dL_law_1211 : decode cL_law 1211 = .ok (.iaload, 1) := by decide +kernel
theorem dL_law_1212 : decode cL_law 1212 = .ok (.aload_n 0, 1) := by decide +kernel
theorem dL_law_1213 : decode cL_law 1213 = .ok (.iload 4, 2) := by decide +kernel
theorem dL_law_1215 : decode cL_law 1215 = .ok (.iconst 2, 1) := by decide +kernel
theorem dL_law_1216 : decode cL_law 1216 = .ok (.iadd, 1) := by decide +kernel
theorem dL_law_1217 : decode cL_law 1217 = .ok (.iaload, 1) := by decide +kernel
theorem dL_law_1218 : decode cL_law 1218 = .ok (.aload_n 0, 1) := by decide +kernel
theorem dL_law_1219 : decode cL_law 1219 = .ok (.iload 4, 2) := by decide +kernel
theorem dL_law_1221 : decode cL_law 1221 = .ok (.iconst 3, 1) := by decide +kernel
theorem dL_law_1222 : decode cL_law 1222 = .ok (.iadd, 1) := by decide +kernel
theorem dL_law_1223 : decode cL_law 1223 = .ok (.iaload, 1) := by decide +kernel
theorem dL_law_1224 : decode cL_law 1224 = .ok (.invokevirtual 134, 3) := by decide +kernel
theorem dL_law_1227 : decode cL_law 1227 = .ok (.istore 6, 2) := by decide +kernel
theorem dL_law_1229 : decode cL_law 1229 = .ok (.aload_n 2, 1) := by decide +kernel
theorem dL_law_1230 : decode cL_law 1230 = .ok (.invokevirtual 80, 3) := by decide +kernel
theorem dL_law_1233 : decode cL_law 1233 = .ok (.iload 5, 2) := by decide +kernel
theorem dL_law_1235 : decode cL_law 1235 = .ok (.if_icmp .eq 5, 3) := by decide +kernel
theorem dL_law_1238 : decode cL_law 1238 = .ok (.iconst 0, 1) := by decide +kernel
theorem dL_law_1239 : decode cL_law 1239 = .ok (.ireturn, 1) := by decide +kernel
theorem dL_law_1240 : decode cL_law 1240 = .ok (.iload 5, 2) := by decide +kernel
theorem dL_law_1242 : decode cL_law 1242 = .ok (.ifCond .ne 15, 3) := by decide +kernel
theorem dL_law_1245 : decode cL_law 1245 = .ok (.aload_n 3, 1) := by decide +kernel
theorem dL_law_1246 : decode cL_law 1246 = .ok (.iconst 0, 1) := by decide +kernel
theorem dL_law_1247 : decode cL_law 1247 = .ok (.laload, 1) := by decide +kernel
theorem dL_law_1248 : decode cL_law 1248 = .ok (.iload 6, 2) := by decide +kernel
theorem dL_law_1250 : decode cL_law 1250 = .ok (.i2l, 1) := by decide +kernel
theorem dL_law_1251 : decode cL_law 1251 = .ok (.lcmp, 1) := by decide +kernel
theorem dL_law_1252 : decode cL_law 1252 = .ok (.ifCond .eq 5, 3) := by decide +kernel
theorem dL_law_1255 : decode cL_law 1255 = .ok (.iconst 0, 1) := by decide +kernel
theorem dL_law_1256 : decode cL_law 1256 = .ok (.ireturn, 1) := by decide +kernel
theorem dL_law_1257 : decode cL_law 1257 = .ok (.goto 3, 3) := by decide +kernel
theorem dL_law_1260 : decode cL_law 1260 = .ok (.iinc 4 8, 3) := by decide +kernel
theorem dL_law_1263 : decode cL_law 1263 = .ok (.goto (-1240), 3) := by decide +kernel
theorem dL_law_1266 : decode cL_law 1266 = .ok (.iconst 1, 1) := by decide +kernel
theorem dL_law_1267 : decode cL_law 1267 = .ok (.ireturn, 1) := by decide +kernel
abbrev vwCl : List vw_C := [(RX0, TX0, 11), (RX1, TX1, 2), (RX2, TX2, 13)]
end
section
/-! rows of this claim's own: numbers as Nat, worlds in blocks, one shape of contract -/
abbrev zG : Type := va_G × ClassId × ClassId × ClassId
abbrev zT (g : zG) : List (ClassId × FieldType) := [(g.2.1, .int), (g.2.2.1, .object "Usewise$Lease"), (g.2.2.2, .long)]
def zK (g : zG) (U : State) : Prop := va_K g.1 vwCl (zT g) U
theorem zK.moved {g : zG} {u U : State} (hvm : u.vm.Alike U.vm) (h : zK g u) : zK g U := va_K.moved hvm h
def zIn (g : zG) (ws : va_W) (sz : Nat) (U : State) : Prop := U.heap.size = sz ∧ va_P g.1 vwCl ws U.heap ∧ zK g U ∧ va_D (fun _ => True) ws
def zOut (g : zG) (A : Nat → Prop) (ws : va_W) (t : State) : Prop := va_P g.1 vwCl ws t.heap ∧ zK g t ∧ va_D A ws
/-- the words beside the tables' good ones -/
def zMN (C : String) : MethodName := ⟨C, "<init>", "(Ljava/lang/String;)V"⟩
def zNW : List Cond := [.declares (zMN "java/lang/RuntimeException"), .declares (zMN "java/lang/Exception"), .declares (zMN "java/lang/Throwable"), .castable "java/lang/IllegalArgumentException" "java/lang/IllegalArgumentException", .castable "java/lang/IllegalStateException" "java/lang/IllegalStateException", .castable "java/lang/IndexOutOfBoundsException" "java/lang/IndexOutOfBoundsException", .fieldLinkNest "Usewise" 87 "Usewise$Lease" "rate" "I" "Usewise", .fieldLinkNest "Usewise" 94 "Usewise$Lease" "right" "J" "Usewise", .fieldLinkNest "Usewise" 98 "Usewise$Lease" "interest" "J" "Usewise", .fieldLinkNest "Usewise" 101 "Usewise$Lease" "written" "J" "Usewise", .fieldLinkNest "Usewise" 104 "Usewise$Lease" "paid" "J" "Usewise", .fieldLinkNest "Usewise" 107 "Usewise$Lease" "gains" "J" "Usewise"]
def zSR : List (Nat × String) := [(113, "out of range"), (116, "the lease is over"), (118, "no such lease"), (25, "there are as many leases as there can be"), (48, "a payment would be too high"), (61, "there would be too many months in all"), (70, "no month would be left to come"), (81, "not so many months are to come")]
def zV (U : State) : Prop := (∀ w ∈ zNW, va_Nw w U) ∧ ∀ q ∈ zSR, ∃ a : Nat, vk_R "Usewise" q.1 q.2 a U
def zX (A : Nat → Prop) (U : State) (H : Heap) : Prop := vx_Zq Bundle.tN "UNASSIGNED_STACK" Bundle.steD A U H ∧ vx_Zq Bundle.tN "SUPPRESSED_SENTINEL" Bundle.listD A U H ∧ zV U
theorem zV.warm {s U : State} (hW : s.WarmedH U.vm) (h : zV s) : zV U := by
  refine ⟨fun w hw => ?_, fun q hq => ?_⟩
  · have h1 := h.1 w hw
    simp only [zNW, List.mem_cons, List.not_mem_nil, or_false] at hw
    rcases hw with rfl | rfl | rfl | rfl | rfl | rfl | rfl | rfl | rfl | rfl | rfl | rfl <;> first | exact va_Nw.warmC hW h1 | exact va_Nw.warmF hW h1 | exact va_Nw.warmD hW h1
  · obtain ⟨a, ha⟩ := h.2 q hq
    exact ⟨a, vk_R.warm hW ha⟩
theorem zX.warm {A B : Nat → Prop} {s U : State} {H0 H : Heap} {locs : List Loc} (hS : va_S A H0 H locs) (hW : s.WarmedH U.vm) (h : zX A s H0) (hB : ∀ q, B q → A q) : zX B U H :=
  ⟨((h.1.kept hS.2.1).moved hW.alike).narrow hB, ((h.2.1.kept hS.2.1).moved hW.alike).narrow hB, zV.warm hW h.2.2⟩
theorem zX.same {A : Nat → Prop} {U V : State} {H : Heap} (hv : V.vm = U.vm) (h : zX A U H) : zX A V H := by
  have hal : U.vm.Alike V.vm := by rw [hv]; exact Vm.Alike.refl U.vm
  refine ⟨h.1.moved hal, h.2.1.moved hal, fun w hw => ?_, fun q hq => ?_⟩
  · have h1 := h.2.2.1 w hw
    simp only [zNW, List.mem_cons, List.not_mem_nil, or_false] at hw
    rcases hw with rfl | rfl | rfl | rfl | rfl | rfl | rfl | rfl | rfl | rfl | rfl | rfl <;> exact va_Nw.same rfl hv.symm h1
  · obtain ⟨a, ha⟩ := h.2.2.2 q hq
    exact ⟨a, vk_R.same hv ha⟩
-- the shapes of a contract
abbrev zMi (l : Launch) (y : MethodName) (wsy : List Cond) (rm : Room) (av : List Value) (g : zG) (w : va_W) (post : Int32 → va_W → Prop) (mc ms : Nat) : Prop := ∀ (sz : Nat) (A : Nat → Prop), A = va_A w sz → Met l y wsy rm (va_Pc av (zIn g w sz)) (va_Qi post (zOut g A) A) mc ms A
abbrev zMl (l : Launch) (y : MethodName) (wsy : List Cond) (rm : Room) (av : List Value) (g : zG) (w : va_W) (post : Int64 → va_W → Prop) (mc ms : Nat) : Prop := ∀ (sz : Nat) (A : Nat → Prop), A = va_A w sz → Met l y wsy rm (va_Pc av (zIn g w sz)) (va_Ql post (zOut g A) A) mc ms A
abbrev zMv (l : Launch) (y : MethodName) (wsy : List Cond) (rm : Room) (av : List Value) (g : zG) (w : va_W) (post : va_W → Prop) (mc ms : Nat) : Prop := ∀ (sz : Nat) (A : Nat → Prop), A = va_A w sz → Met l y wsy rm (va_Pc av (zIn g w sz)) (va_Qv post (zOut g A) A) mc ms A
abbrev zPX (av : List Value) (g : zG) (w : va_W) (sz : Nat) (A : Nat → Prop) : Array Value → State → Prop := va_Pc av (fun U => zIn g w sz U ∧ zX A U U.heap)
abbrev zQX (g : zG) (w : va_W) (XE : String → Prop) (A : Nat → Prop) : String → State → State → Prop := vx_X (fun u : va_W => u = w) (fun E u t => XE E ∧ zOut g A u t) A
abbrev zWi (l : Launch) (y : MethodName) (wsy : List Cond) (rm : Room) (av : List Value) (g : zG) (w : va_W) (post : Int32 → va_W → Prop) (mc ms : Nat) : Prop := ∀ (sz : Nat) (A : Nat → Prop), A = va_A w sz → Met l y wsy rm (zPX av g w sz A) (va_Qi post (zOut g A) A) mc ms A
abbrev zXi (l : Launch) (y : MethodName) (wsy : List Cond) (rm : Room) (av : List Value) (g : zG) (w : va_W) (post : Int32 → va_W → Prop) (XE : String → Prop) (mc ms : Nat) : Prop := ∀ (sz : Nat) (A : Nat → Prop), A = va_A w sz → vx_Met l y wsy rm (zPX av g w sz A) (va_Qi post (zOut g A) A) (zQX g w XE A) mc ms A
abbrev zXv (l : Launch) (y : MethodName) (wsy : List Cond) (rm : Room) (av : List Value) (g : zG) (w : va_W) (post : va_W → Prop) (XE : String → Prop) (mc ms : Nat) : Prop := ∀ (sz : Nat) (A : Nat → Prop), A = va_A w sz → vx_Met l y wsy rm (zPX av g w sz A) (va_Qv post (zOut g A) A) (zQX g w XE A) mc ms A
abbrev zXq (l : Launch) (y : MethodName) (wsy : List Cond) (rm : Room) (av : List Value) (g : zG) (w : va_W) (post : Option Nat → va_W → Prop) (XE : String → Prop) (mc ms : Nat) : Prop := ∀ (sz : Nat) (A : Nat → Prop), A = va_A w sz → vx_Met l y wsy rm (zPX av g w sz A) (va_Qq post (zOut g A) A) (zQX g w XE A) mc ms A
theorem zIn.blind {av : List Value} {g : zG} {w : va_W} {sz : Nat} : FrameBlind (va_Pc av (zIn g w sz)) := fun a U f mk q => by
  obtain ⟨q0, q1, qP, qK, qD⟩ := q
  exact ⟨q0, q1, qP, zK.moved (u := U) (U := U.calling f mk a) (Vm.Alike.refl U.vm) qK, qD⟩
theorem zPX.blind {av : List Value} {g : zG} {w : va_W} {sz : Nat} {A : Nat → Prop} : FrameBlind (zPX av g w sz A) := fun a U f mk q => by
  obtain ⟨q0, ⟨q1, qP, qK, qD⟩, qX⟩ := q
  exact ⟨q0, ⟨q1, qP, zK.moved (u := U) (U := U.calling f mk a) (Vm.Alike.refl U.vm) qK, qD⟩, zX.same (U := U) rfl qX⟩
theorem z_in {s : State} {A : Nat → Prop} {w : va_W} {sz : Nat} (hsz : s.heap.size = sz) (hAe : A = va_A w sz) (hD0 : va_D (fun _ => True) w) : va_D A w ∧ (∀ q : Nat, s.heap.size ≤ q → A q) ∧ va_S A s.heap s.heap [] := by
  subst hsz; subst hAe
  exact ⟨hD0.self, fun q h => Or.inr h, va_S.rf⟩
-- worlds in blocks
theorem zP_iff {D : va_G} {cl : List vw_C} {ws : va_W} {H : Heap} : va_P D cl ws H ↔ ∀ q ∈ ws, va_at D cl q H :=
  ⟨fun h q hq => by obtain ⟨k, hk⟩ := List.getElem?_of_mem hq; exact h k q hk, fun h k q hk => h q (List.mem_of_getElem? hk)⟩
theorem zD_iff {A : Nat → Prop} {ws : va_W} : va_D A ws ↔ (ws.map Prod.fst).Nodup ∧ ∀ q ∈ ws, A q.1 := by
  constructor
  · intro h
    refine ⟨?_, fun q hq => by obtain ⟨k, hk⟩ := List.getElem?_of_mem hq; exact h.2 k q hk⟩
    rw [List.nodup_iff_pairwise_ne, List.pairwise_iff_getElem]
    intro i j hi hj hij he
    rw [List.getElem_map, List.getElem_map] at he
    rw [List.length_map] at hi hj
    have := h.1 i j ws[i] ws[j] (List.getElem?_eq_getElem hi) (List.getElem?_eq_getElem hj) he
    omega
  · intro h
    refine ⟨fun i j p q hp hq he => ?_, fun k q hk => h.2 q (List.mem_of_getElem? hk)⟩
    have h1 := h.1
    rw [List.nodup_iff_pairwise_ne, List.pairwise_iff_getElem] at h1
    obtain ⟨hi, ei⟩ := List.getElem?_eq_some_iff.mp hp
    obtain ⟨hj, ej⟩ := List.getElem?_eq_some_iff.mp hq
    rcases Nat.lt_trichotomy i j with q1 | q1 | q1
    · exact absurd (by rw [List.getElem_map, List.getElem_map, ei, ej]; exact he) (h1 i j (by rw [List.length_map]; exact hi) (by rw [List.length_map]; exact hj) q1)
    · exact q1
    · exact absurd (by rw [List.getElem_map, List.getElem_map, ei, ej]; exact he.symm) (h1 j i (by rw [List.length_map]; exact hj) (by rw [List.length_map]; exact hi) q1)
theorem zP_perm {D : va_G} {cl : List vw_C} {ws ws' : va_W} {H : Heap} (h : va_P D cl ws H) (p : ws'.Perm ws) : va_P D cl ws' H := zP_iff.mpr fun q hq => zP_iff.mp h q (p.subset hq)
theorem zD_perm {A : Nat → Prop} {ws ws' : va_W} (h : va_D A ws) (p : ws'.Perm ws) : va_D A ws' := zD_iff.mpr ⟨(p.map Prod.fst).nodup_iff.mpr (zD_iff.mp h).1, fun q hq => (zD_iff.mp h).2 q (p.subset hq)⟩
theorem zA_iff {ws : va_W} {sz q : Nat} : va_A ws sz q ↔ (∃ e, (q, e) ∈ ws) ∨ sz ≤ q := by
  constructor
  · rintro (⟨k, e, h⟩ | h)
    · exact Or.inl ⟨e, List.mem_of_getElem? h⟩
    · exact Or.inr h
  · rintro (⟨e, h⟩ | h)
    · obtain ⟨k, hk⟩ := List.getElem?_of_mem h
      exact Or.inl ⟨k, e, hk⟩
    · exact Or.inr h
theorem zP_mid {D : va_G} {cl : List vw_C} {wa wc wb : va_W} {H : Heap} (h : va_P D cl (wa ++ wc ++ wb) H) : va_P D cl wc H := zP_iff.mpr fun q hq => zP_iff.mp h q (by simp [hq])
theorem zD_mid {A : Nat → Prop} {wa wc wb : va_W} (h : va_D A (wa ++ wc ++ wb)) : va_D A wc := by
  have h' := zD_iff.mp h
  refine zD_iff.mpr ⟨?_, fun q hq => h'.2 q (by simp [hq])⟩
  have h1 := h'.1
  rw [List.map_append, List.map_append] at h1
  exact (List.nodup_append.mp (List.nodup_append.mp h1).1).2.1
theorem zfree {A : Nat → Prop} {wa wc wb : va_W} {H0 H : Heap} {locs : List Loc} (hD : va_D A (wa ++ wc ++ wb)) (hS : va_S A H0 H locs) (hA : ∀ q, H0.size ≤ q → A q) : ∀ q, va_A wc H.size q → A q := by
  intro q hq
  rcases zA_iff.mp hq with ⟨e, he⟩ | h
  · exact (zD_iff.mp hD).2 (q, e) (by simp [he])
  · exact hA q (Nat.le_trans hS.1 h)
theorem zjoin {A : Nat → Prop} {D : va_G} {cl : List vw_C} {wa wc wb w1 : va_W} {H H1 : Heap} (hP : va_P D cl (wa ++ wc ++ wb) H) (hD : va_D A (wa ++ wc ++ wb))
    (hk : ∀ q : Nat, q < H.size → ¬ va_A wc H.size q → H1[q]? = H[q]?) (hF : ∀ q, va_A wc H.size q → A q) (hP1 : va_P D cl w1 H1) (hD1 : va_D (va_A wc H.size) w1) : va_P D cl (wa ++ w1 ++ wb) H1 ∧ va_D A (wa ++ w1 ++ wb) := by
  have hP' := zP_iff.mp hP
  obtain ⟨hn, hA'⟩ := zD_iff.mp hD
  obtain ⟨hn1, hA1⟩ := zD_iff.mp hD1
  have hP1' := zP_iff.mp hP1
  simp only [List.map_append, List.nodup_append, List.mem_append, List.mem_map] at hn
  obtain ⟨⟨na, nc, nac⟩, nb, nab⟩ := hn
  have out : ∀ q ∈ wa ++ wb, q.1 < H.size ∧ ¬ va_A wc H.size q.1 := by
    intro q hq
    have hlt : q.1 < H.size := (hP' q (by rcases List.mem_append.mp hq with h | h <;> simp [h])).lt
    refine ⟨hlt, fun h => ?_⟩
    rcases zA_iff.mp h with ⟨e, he⟩ | h
    · rcases List.mem_append.mp hq with h2 | h2
      · exact nac q.1 ⟨q, h2, rfl⟩ q.1 ⟨_, he, rfl⟩ rfl
      · exact nab q.1 (Or.inr ⟨_, he, rfl⟩) q.1 ⟨q, h2, rfl⟩ rfl
    · omega
  refine ⟨zP_iff.mpr fun q hq => ?_, zD_iff.mpr ⟨?_, fun q hq => ?_⟩⟩
  · rcases List.mem_append.mp hq with h | h
    · rcases List.mem_append.mp h with h | h
      · obtain ⟨g1, g2⟩ := out q (List.mem_append_left _ h)
        exact (hP' q (by simp [h])).kept (hk q.1 g1 g2)
      · exact hP1' q h
    · obtain ⟨g1, g2⟩ := out q (List.mem_append_right _ h)
      exact (hP' q (by simp [h])).kept (hk q.1 g1 g2)
  · simp only [List.map_append, List.nodup_append, List.mem_append, List.mem_map]
    refine ⟨⟨na, hn1, ?_⟩, nb, ?_⟩
    · rintro x ⟨q, hq, rfl⟩ y ⟨q1, hq1, rfl⟩ he
      exact (out q (List.mem_append_left _ hq)).2 (by rw [he]; exact hA1 q1 hq1)
    · rintro x (⟨q, hq, rfl⟩ | ⟨q, hq, rfl⟩) y ⟨q1, hq1, rfl⟩ he
      · exact nab q.1 (Or.inl ⟨q, hq, rfl⟩) q1.1 ⟨q1, hq1, rfl⟩ he
      · exact (out q1 (List.mem_append_right _ hq1)).2 (by rw [← he]; exact hA1 q hq)
  · rcases List.mem_append.mp hq with h | h
    · rcases List.mem_append.mp h with h | h
      · exact hA' q (by simp [h])
      · exact hF q.1 (hA1 q h)
    · exact hA' q (by simp [h])
end
section
section ZQ
variable {p : Program} {l : Launch} {e : Env} {R : Room} {s : State} {m : MethodId} {args : Array Value} {below : List Frame} {meth : Method} {c : Code} {H : Heap} {locs : List Loc} {cells slots : Nat} {Q : State → Prop}
variable {mc ms : Nat} {free : Addr → Prop} {A0 A1 : Nat → Prop} {H0 : Heap} {a : Array Value} {pc : Nat} {ls : Array Slot} {st0 rest : List Value}
theorem vx_callq {S SX : Type} {post : Option Nat → S → Prop} {px : SX → Prop} {B : S → State → Prop} {BX : String → SX → State → Prop} {AX : Nat → Prop} (hr : vx_Run p l e R s m args below meth c H locs cells slots mc ms (F0 m pc ls st0) rest (va_Qq post B A1 a) (vx_X px BX AX) free) (hS : va_S A0 H0 H locs) (hA : ∀ q, q < H.size → A1 q → A0 q) (hf : ∀ q, free q → A0 q) (hAX : ∀ q, q < H.size → AX q → A0 q)
    (kx : ∀ (E : String) (ce : Cell) (q9 : Addr) (u : SX) (t : State) (H1 : Heap) (locs1 : List Loc), t.heap = H1 → s.vm.Alike t.vm → px u → BX E u t → H.size ≤ H1.size → (∀ q : Nat, q < H.size → ¬ AX q → H1[q]? = H[q]?) → va_S A0 H0 H1 locs1 → H1[q9]? = some ce → ce.vm = .none → s.vm.findClass E = some ce.cls → vx_W p l e R s m args below meth c H1 locs1 (cells + mc) (slots + ms) Q (F0 m pc ls rest) q9)
    (kk : ∀ (r : Option Nat) (u : S) (t : State) (H1 : Heap) (locs1 : List Loc), t.heap = H1 → s.vm.Alike t.vm → post r u → B u t → H.size ≤ H1.size → (∀ q : Nat, q < H.size → ¬ A1 q → H1[q]? = H[q]?) → va_S A0 H0 H1 locs1 → W p l e R s m args below meth c H1 locs1 (cells + mc) (slots + ms) Q (F0 m (pc + 3) ls (va_rf r :: rest))) : W p l e R s m args below meth c H locs cells slots Q (F0 m pc ls st0) := by
  intro T hT X
  rcases hr T hT X with ⟨v, st₀, t, T', L, h0, X', hL, e1, e2, ⟨⟨r, u, hv, hp, hb⟩, hF⟩, st⟩ | ⟨q, st₀, t, T', L, E, ce, h0, X', hL, e1, e2, ⟨u, hp, hb, hF⟩, hce, hcv, hcl, st⟩
  · cases hv
    obtain ⟨k1, k2, k3⟩ := vx_keep h0 e1 hS hA hf hL hF
    obtain ⟨t2, a1, b1⟩ := kk r u t T'.heap (locs ++ L) e1.symm (by rw [← e2]; exact X'.warmed.alike) hp hb k1 k2 k3 T' rfl X'
    exact ⟨t2, st t2 a1, b1⟩
  · obtain ⟨k1, k2, k3⟩ := vx_keep h0 e1 hS hAX hf hL hF
    obtain ⟨t2, a1, b1⟩ := kx E ce q u t T'.heap (locs ++ L) e1.symm (by rw [← e2]; exact X'.warmed.alike) hp hb k1 k2 k3 (by rw [e1]; exact hce) hcv hcl T' rfl X'
    exact ⟨t2, st.trans a1, b1⟩
end ZQ
section ZC
variable {p : Program} {l : Launch} {e : Env} {R : Room} {s : State} {m : MethodId} {args : Array Value} {below : List Frame} {meth : Method} {c : Code} {H : Heap} {locs : List Loc} {cells slots : Nat} {Q : State → Prop}
variable {cc : ByteArray} {pc : Nat} {ls : Array Slot} {rest st : List Value} {g : zG} {A : Nat → Prop} {wa wc wb : va_W}
variable {y : MethodName} {bytes : ByteArray} {maxL nL mc ms n index ci N : Nat} {wsy Ts : List Cond} {rm : Room} {own C : String} {T : u_T} {b : Addr} {As : List Value} {fs : List Value} {XE : String → Prop}
theorem zpreV (hK : zK g s) (hP : va_P g.1 vwCl (wa ++ wc ++ wb) H) (hD : va_D A (wa ++ wc ++ wb)) {q0 : Nat} (hr : wc[q0]? = some (b, .inr (ci, fs))) (hci : vwCl[ci]? = some (C, T, N)) : PreV s H C b (va_Pc (.ref b :: As) (zIn g wc H.size)) As :=
  ⟨zIn.blind, va_recv hK (zP_mid hP) hci hr, fun U hU hW => ⟨rfl, by rw [hU], by rw [hU]; exact zP_mid hP, hK.moved hW.alike, (zD_mid hD).weaken (fun _ _ _ _ => trivial)⟩⟩
theorem zpreS (hK : zK g s) (hP : va_P g.1 vwCl (wa ++ wc ++ wb) H) (hD : va_D A (wa ++ wc ++ wb)) : PreS s H (va_Pc As (zIn g wc H.size)) As :=
  ⟨zIn.blind, fun U hU hW => ⟨rfl, by rw [hU], by rw [hU]; exact zP_mid hP, hK.moved hW.alike, (zD_mid hD).weaken (fun _ _ _ _ => trivial)⟩⟩
theorem zpreXV (hK : zK g s) (hP : va_P g.1 vwCl (wa ++ wc ++ wb) H) (hD : va_D A (wa ++ wc ++ wb)) (hS : va_S A s.heap H locs) (hA : ∀ q, s.heap.size ≤ q → A q) (hX : zX A s s.heap) {q0 : Nat} (hr : wc[q0]? = some (b, .inr (ci, fs))) (hci : vwCl[ci]? = some (C, T, N)) : PreV s H C b (zPX (.ref b :: As) g wc H.size (va_A wc H.size)) As :=
  ⟨zPX.blind, va_recv hK (zP_mid hP) hci hr, fun U hU hW => ⟨rfl, ⟨by rw [hU], by rw [hU]; exact zP_mid hP, hK.moved hW.alike, (zD_mid hD).weaken (fun _ _ _ _ => trivial)⟩, by rw [hU]; exact hX.warm hS hW (zfree hD hS hA)⟩⟩
theorem zpreXS (hK : zK g s) (hP : va_P g.1 vwCl (wa ++ wc ++ wb) H) (hD : va_D A (wa ++ wc ++ wb)) (hS : va_S A s.heap H locs) (hA : ∀ q, s.heap.size ≤ q → A q) (hX : zX A s s.heap) : PreS s H (zPX As g wc H.size (va_A wc H.size)) As :=
  ⟨zPX.blind, fun U hU hW => ⟨rfl, ⟨by rw [hU], by rw [hU]; exact zP_mid hP, hK.moved hW.alike, (zD_mid hD).weaken (fun _ _ _ _ => trivial)⟩, by rw [hU]; exact hX.warm hS hW (zfree hD hS hA)⟩⟩
-- behind a run
theorem z_ai {post : Int32 → va_W → Prop} {a : Array Value} (hr : va_Run p l e R s m args below meth c H locs cells slots mc ms (F0 m pc ls st) rest (va_Qi post (zOut g (va_A wc H.size)) (va_A wc H.size) a) (va_A wc H.size)) (hP : va_P g.1 vwCl (wa ++ wc ++ wb) H) (hD : va_D A (wa ++ wc ++ wb)) (hS : va_S A s.heap H locs) (hA : ∀ q, s.heap.size ≤ q → A q)
    (kk : ∀ (r : Int32) (w1 : va_W) (H1 : Heap) (locs1 : List Loc), post r w1 → va_P g.1 vwCl (wa ++ w1 ++ wb) H1 → va_D A (wa ++ w1 ++ wb) → va_S A s.heap H1 locs1 → W p l e R s m args below meth c H1 locs1 (cells + mc) (slots + ms) Q (F0 m (pc + 3) ls (.int r :: rest))) : W p l e R s m args below meth c H locs cells slots Q (F0 m pc ls st) :=
  va_calli hr hS (fun q _ h => zfree hD hS hA q h) (zfree hD hS hA) (fun r u t H1 locs1 ht hvm hw hB hz1 hk1 hS1 => by
    obtain ⟨hP1, hK1, hD1⟩ := hB
    rw [ht] at hP1
    obtain ⟨hP2, hD2⟩ := zjoin hP hD hk1 (zfree hD hS hA) hP1 hD1
    exact kk r u H1 locs1 hw hP2 hD2 hS1)
theorem z_al {post : Int64 → va_W → Prop} {a : Array Value} (hr : va_Run p l e R s m args below meth c H locs cells slots mc ms (F0 m pc ls st) rest (va_Ql post (zOut g (va_A wc H.size)) (va_A wc H.size) a) (va_A wc H.size)) (hP : va_P g.1 vwCl (wa ++ wc ++ wb) H) (hD : va_D A (wa ++ wc ++ wb)) (hS : va_S A s.heap H locs) (hA : ∀ q, s.heap.size ≤ q → A q)
    (kk : ∀ (r : Int64) (w1 : va_W) (H1 : Heap) (locs1 : List Loc), post r w1 → va_P g.1 vwCl (wa ++ w1 ++ wb) H1 → va_D A (wa ++ w1 ++ wb) → va_S A s.heap H1 locs1 → W p l e R s m args below meth c H1 locs1 (cells + mc) (slots + ms) Q (F0 m (pc + 3) ls (.long r :: rest))) : W p l e R s m args below meth c H locs cells slots Q (F0 m pc ls st) :=
  va_calll hr hS (fun q _ h => zfree hD hS hA q h) (zfree hD hS hA) (fun r u t H1 locs1 ht hvm hw hB hz1 hk1 hS1 => by
    obtain ⟨hP1, hK1, hD1⟩ := hB
    rw [ht] at hP1
    obtain ⟨hP2, hD2⟩ := zjoin hP hD hk1 (zfree hD hS hA) hP1 hD1
    exact kk r u H1 locs1 hw hP2 hD2 hS1)
theorem z_av {post : va_W → Prop} {a : Array Value} (hr : va_Run p l e R s m args below meth c H locs cells slots mc ms (F0 m pc ls st) rest (va_Qv post (zOut g (va_A wc H.size)) (va_A wc H.size) a) (va_A wc H.size)) (hP : va_P g.1 vwCl (wa ++ wc ++ wb) H) (hD : va_D A (wa ++ wc ++ wb)) (hS : va_S A s.heap H locs) (hA : ∀ q, s.heap.size ≤ q → A q)
    (kk : ∀ (w1 : va_W) (H1 : Heap) (locs1 : List Loc), post w1 → va_P g.1 vwCl (wa ++ w1 ++ wb) H1 → va_D A (wa ++ w1 ++ wb) → va_S A s.heap H1 locs1 → W p l e R s m args below meth c H1 locs1 (cells + mc) (slots + ms) Q (F0 m (pc + 3) ls rest)) : W p l e R s m args below meth c H locs cells slots Q (F0 m pc ls st) :=
  va_callv hr hS (fun q _ h => zfree hD hS hA q h) (zfree hD hS hA) (fun u t H1 locs1 ht hvm hw hB hz1 hk1 hS1 => by
    obtain ⟨hP1, hK1, hD1⟩ := hB
    rw [ht] at hP1
    obtain ⟨hP2, hD2⟩ := zjoin hP hD hk1 (zfree hD hS hA) hP1 hD1
    exact kk u H1 locs1 hw hP2 hD2 hS1)
-- behind a run that may throw
theorem z_xx {pE : va_W → Prop} (hpE : ∀ u, pE u → u = wc) (hP : va_P g.1 vwCl (wa ++ wc ++ wb) H) (hD : va_D A (wa ++ wc ++ wb)) (hS : va_S A s.heap H locs) (hA : ∀ q, s.heap.size ≤ q → A q)
    (kx : ∀ (E : String) (ce : Cell) (q9 : Addr) (H1 : Heap) (locs1 : List Loc), XE E → va_P g.1 vwCl (wa ++ wc ++ wb) H1 → va_D A (wa ++ wc ++ wb) → va_S A s.heap H1 locs1 → H1[q9]? = some ce → ce.vm = .none → s.vm.findClass E = some ce.cls → vx_W p l e R s m args below meth c H1 locs1 (cells + mc) (slots + ms) Q (F0 m pc ls rest) q9) :
    ∀ (E : String) (ce : Cell) (q9 : Addr) (u : va_W) (t : State) (H1 : Heap) (locs1 : List Loc), t.heap = H1 → s.vm.Alike t.vm → pE u → (XE E ∧ zOut g (va_A wc H.size) u t) → H.size ≤ H1.size → (∀ q : Nat, q < H.size → ¬ va_A wc H.size q → H1[q]? = H[q]?) → va_S A s.heap H1 locs1 → H1[q9]? = some ce → ce.vm = .none → s.vm.findClass E = some ce.cls → vx_W p l e R s m args below meth c H1 locs1 (cells + mc) (slots + ms) Q (F0 m pc ls rest) q9 := by
  intro E ce q9 u t H1 locs1 ht hvm hu hB hz1 hk1 hS1 h1 h2 h3
  obtain ⟨hE, hP1, hK1, hD1⟩ := hB
  have hu := hpE u hu
  subst hu
  rw [ht] at hP1
  obtain ⟨hP2, hD2⟩ := zjoin hP hD hk1 (zfree hD hS hA) hP1 hD1
  exact kx E ce q9 H1 locs1 hE hP2 hD2 hS1 h1 h2 h3
theorem z_axi {post : Int32 → va_W → Prop} {a : Array Value} (hr : vx_Run p l e R s m args below meth c H locs cells slots mc ms (F0 m pc ls st) rest (va_Qi post (zOut g (va_A wc H.size)) (va_A wc H.size) a) (zQX g wc XE (va_A wc H.size)) (va_A wc H.size)) (hP : va_P g.1 vwCl (wa ++ wc ++ wb) H) (hD : va_D A (wa ++ wc ++ wb)) (hS : va_S A s.heap H locs) (hA : ∀ q, s.heap.size ≤ q → A q)
    (kx : ∀ (E : String) (ce : Cell) (q9 : Addr) (H1 : Heap) (locs1 : List Loc), XE E → va_P g.1 vwCl (wa ++ wc ++ wb) H1 → va_D A (wa ++ wc ++ wb) → va_S A s.heap H1 locs1 → H1[q9]? = some ce → ce.vm = .none → s.vm.findClass E = some ce.cls → vx_W p l e R s m args below meth c H1 locs1 (cells + mc) (slots + ms) Q (F0 m pc ls rest) q9)
    (kk : ∀ (r : Int32) (w1 : va_W) (H1 : Heap) (locs1 : List Loc), post r w1 → va_P g.1 vwCl (wa ++ w1 ++ wb) H1 → va_D A (wa ++ w1 ++ wb) → va_S A s.heap H1 locs1 → W p l e R s m args below meth c H1 locs1 (cells + mc) (slots + ms) Q (F0 m (pc + 3) ls (.int r :: rest))) : W p l e R s m args below meth c H locs cells slots Q (F0 m pc ls st) :=
  vx_calli hr hS (fun q _ h => zfree hD hS hA q h) (zfree hD hS hA) (fun q _ h => zfree hD hS hA q h) (z_xx (fun _ h => h) hP hD hS hA kx) (fun r u t H1 locs1 ht hvm hw hB hz1 hk1 hS1 => by
    obtain ⟨hP1, hK1, hD1⟩ := hB
    rw [ht] at hP1
    obtain ⟨hP2, hD2⟩ := zjoin hP hD hk1 (zfree hD hS hA) hP1 hD1
    exact kk r u H1 locs1 hw hP2 hD2 hS1)
theorem z_axv {post : va_W → Prop} {a : Array Value} (hr : vx_Run p l e R s m args below meth c H locs cells slots mc ms (F0 m pc ls st) rest (va_Qv post (zOut g (va_A wc H.size)) (va_A wc H.size) a) (zQX g wc XE (va_A wc H.size)) (va_A wc H.size)) (hP : va_P g.1 vwCl (wa ++ wc ++ wb) H) (hD : va_D A (wa ++ wc ++ wb)) (hS : va_S A s.heap H locs) (hA : ∀ q, s.heap.size ≤ q → A q)
    (kx : ∀ (E : String) (ce : Cell) (q9 : Addr) (H1 : Heap) (locs1 : List Loc), XE E → va_P g.1 vwCl (wa ++ wc ++ wb) H1 → va_D A (wa ++ wc ++ wb) → va_S A s.heap H1 locs1 → H1[q9]? = some ce → ce.vm = .none → s.vm.findClass E = some ce.cls → vx_W p l e R s m args below meth c H1 locs1 (cells + mc) (slots + ms) Q (F0 m pc ls rest) q9)
    (kk : ∀ (w1 : va_W) (H1 : Heap) (locs1 : List Loc), post w1 → va_P g.1 vwCl (wa ++ w1 ++ wb) H1 → va_D A (wa ++ w1 ++ wb) → va_S A s.heap H1 locs1 → W p l e R s m args below meth c H1 locs1 (cells + mc) (slots + ms) Q (F0 m (pc + 3) ls rest)) : W p l e R s m args below meth c H locs cells slots Q (F0 m pc ls st) :=
  vx_callv hr hS (fun q _ h => zfree hD hS hA q h) (zfree hD hS hA) (fun q _ h => zfree hD hS hA q h) (z_xx (fun _ h => h) hP hD hS hA kx) (fun u t H1 locs1 ht hvm hw hB hz1 hk1 hS1 => by
    obtain ⟨hP1, hK1, hD1⟩ := hB
    rw [ht] at hP1
    obtain ⟨hP2, hD2⟩ := zjoin hP hD hk1 (zfree hD hS hA) hP1 hD1
    exact kk u H1 locs1 hw hP2 hD2 hS1)
theorem z_axq {post : Option Nat → va_W → Prop} {a : Array Value} (hr : vx_Run p l e R s m args below meth c H locs cells slots mc ms (F0 m pc ls st) rest (va_Qq post (zOut g (va_A wc H.size)) (va_A wc H.size) a) (zQX g wc XE (va_A wc H.size)) (va_A wc H.size)) (hP : va_P g.1 vwCl (wa ++ wc ++ wb) H) (hD : va_D A (wa ++ wc ++ wb)) (hS : va_S A s.heap H locs) (hA : ∀ q, s.heap.size ≤ q → A q)
    (kx : ∀ (E : String) (ce : Cell) (q9 : Addr) (H1 : Heap) (locs1 : List Loc), XE E → va_P g.1 vwCl (wa ++ wc ++ wb) H1 → va_D A (wa ++ wc ++ wb) → va_S A s.heap H1 locs1 → H1[q9]? = some ce → ce.vm = .none → s.vm.findClass E = some ce.cls → vx_W p l e R s m args below meth c H1 locs1 (cells + mc) (slots + ms) Q (F0 m pc ls rest) q9)
    (kk : ∀ (r : Option Nat) (w1 : va_W) (H1 : Heap) (locs1 : List Loc), post r w1 → va_P g.1 vwCl (wa ++ w1 ++ wb) H1 → va_D A (wa ++ w1 ++ wb) → va_S A s.heap H1 locs1 → W p l e R s m args below meth c H1 locs1 (cells + mc) (slots + ms) Q (F0 m (pc + 3) ls (va_rf r :: rest))) : W p l e R s m args below meth c H locs cells slots Q (F0 m pc ls st) :=
  vx_callq hr hS (fun q _ h => zfree hD hS hA q h) (zfree hD hS hA) (fun q _ h => zfree hD hS hA q h) (z_xx (fun _ h => h) hP hD hS hA kx) (fun r u t H1 locs1 ht hvm hw hB hz1 hk1 hS1 => by
    obtain ⟨hP1, hK1, hD1⟩ := hB
    rw [ht] at hP1
    obtain ⟨hP2, hD2⟩ := zjoin hP hD hk1 (zfree hD hS hA) hP1 hD1
    exact kk r u H1 locs1 hw hP2 hD2 hS1)
end ZC
end
section
section ZR
variable {p : Program} {l : Launch} {e : Env} {R : Room} {s : State} {m : MethodId} {args : Array Value} {below : List Frame} {meth : Method} {c : Code} {H : Heap} {locs : List Loc} {cells slots : Nat} {Q : State → Prop}
variable {cc : ByteArray} {pc : Nat} {ls : Array Slot} {rest : List Value}
theorem zi {x y : Int32} (h : x = y) (k : W p l e R s m args below meth c H locs cells slots Q (F0 m pc ls (.int y :: rest))) : W p l e R s m args below meth c H locs cells slots Q (F0 m pc ls (.int x :: rest)) := by rw [h]; exact k
theorem zl {x y : Int64} (h : x = y) (k : W p l e R s m args below meth c H locs cells slots Q (F0 m pc ls (.long y :: rest))) : W p l e R s m args below meth c H locs cells slots Q (F0 m pc ls (.long x :: rest)) := by rw [h]; exact k
theorem z_iadd (hx : p.tables.exec = Jvm.exec) (hb : c.code = cc) {a b : Nat} (d : decode cc pc = .ok (.iadd, 1)) (k : W p l e R s m args below meth c H locs cells slots Q (F0 m (pc + 1) ls (.int (nI (a + b)) :: rest))) : W p l e R s m args below meth c H locs cells slots Q (F0 m pc ls (.int (nI b) :: .int (nI a) :: rest)) := lv_iadd hx hb d  (zi (nI_add a b) k)
theorem z_isub (hx : p.tables.exec = Jvm.exec) (hb : c.code = cc) {a b : Nat} (d : decode cc pc = .ok (.isub, 1)) (h : b ≤ a) (k : W p l e R s m args below meth c H locs cells slots Q (F0 m (pc + 1) ls (.int (nI (a - b)) :: rest))) : W p l e R s m args below meth c H locs cells slots Q (F0 m pc ls (.int (nI b) :: .int (nI a) :: rest)) := lv_isub hx hb d  (zi (pk_sub h) k)
theorem z_imul (hx : p.tables.exec = Jvm.exec) (hb : c.code = cc) {a b : Nat} (d : decode cc pc = .ok (.imul, 1)) (k : W p l e R s m args below meth c H locs cells slots Q (F0 m (pc + 1) ls (.int (nI (a * b)) :: rest))) : W p l e R s m args below meth c H locs cells slots Q (F0 m pc ls (.int (nI b) :: .int (nI a) :: rest)) := lv_imul hx hb d  (zi (pk_mul a b) k)
theorem z_idiv (hx : p.tables.exec = Jvm.exec) (hb : c.code = cc) {a b : Nat} (d : decode cc pc = .ok (.idiv, 1)) (ha : a < 2 ^ 31) (h0 : 0 < b) (hb2 : b < 2 ^ 31) (k : W p l e R s m args below meth c H locs cells slots Q (F0 m (pc + 1) ls (.int (nI (a / b)) :: rest))) : W p l e R s m args below meth c H locs cells slots Q (F0 m pc ls (.int (nI b) :: .int (nI a) :: rest)) := lv_idiv hx hb d (nI_ne0 h0 hb2) (zi (pk_div ha h0 hb2) k)
theorem z_ladd (hx : p.tables.exec = Jvm.exec) (hb : c.code = cc) {a b : Nat} (d : decode cc pc = .ok (.ladd, 1)) (k : W p l e R s m args below meth c H locs cells slots Q (F0 m (pc + 1) ls (.long (lN (a + b)) :: rest))) : W p l e R s m args below meth c H locs cells slots Q (F0 m pc ls (.long (lN b) :: .long (lN a) :: rest)) := lv_ladd hx hb d  (zl (lN_add a b) k)
theorem z_lsub (hx : p.tables.exec = Jvm.exec) (hb : c.code = cc) {a b : Nat} (d : decode cc pc = .ok (.lsub, 1)) (h : b ≤ a) (k : W p l e R s m args below meth c H locs cells slots Q (F0 m (pc + 1) ls (.long (lN (a - b)) :: rest))) : W p l e R s m args below meth c H locs cells slots Q (F0 m pc ls (.long (lN b) :: .long (lN a) :: rest)) := lv_lsub hx hb d  (zl (lN_sub h) k)
theorem z_lmul (hx : p.tables.exec = Jvm.exec) (hb : c.code = cc) {a b : Nat} (d : decode cc pc = .ok (.lmul, 1)) (k : W p l e R s m args below meth c H locs cells slots Q (F0 m (pc + 1) ls (.long (lN (a * b)) :: rest))) : W p l e R s m args below meth c H locs cells slots Q (F0 m pc ls (.long (lN b) :: .long (lN a) :: rest)) := lv_lmul hx hb d  (zl (lN_mul a b) k)
theorem z_ldiv (hx : p.tables.exec = Jvm.exec) (hb : c.code = cc) {a b : Nat} (d : decode cc pc = .ok (.ldiv, 1)) (ha : a < 2 ^ 63) (h0 : 0 < b) (hb2 : b < 2 ^ 63) (k : W p l e R s m args below meth c H locs cells slots Q (F0 m (pc + 1) ls (.long (lN (a / b)) :: rest))) : W p l e R s m args below meth c H locs cells slots Q (F0 m pc ls (.long (lN b) :: .long (lN a) :: rest)) := lv_ldiv hx hb d (fun q => absurd ((pk_lEQ (a := b) (b := 0) hb2 (by decide)).mp q) (by omega)) (zl (pk_lDiv ha h0 hb2) k)
theorem z_i2l (hx : p.tables.exec = Jvm.exec) (hb : c.code = cc) {a : Nat} (d : decode cc pc = .ok (.i2l, 1)) (ha : a < 2 ^ 31) (k : W p l e R s m args below meth c H locs cells slots Q (F0 m (pc + 1) ls (.long (lN a) :: rest))) : W p l e R s m args below meth c H locs cells slots Q (F0 m pc ls (.int (nI a) :: rest)) := lv_i2l hx hb d rfl (zl (nI_l ha) k)
theorem z_l2i (hx : p.tables.exec = Jvm.exec) (hb : c.code = cc) {a : Nat} (d : decode cc pc = .ok (.l2i, 1)) (k : W p l e R s m args below meth c H locs cells slots Q (F0 m (pc + 1) ls (.int (nI a) :: rest))) : W p l e R s m args below meth c H locs cells slots Q (F0 m pc ls (.long (lN a) :: rest)) := lv_l2i hx hb d rfl (zi (lN_i a) k)
theorem z_icmp_ge (hx : p.tables.exec = Jvm.exec) (hb : c.code = cc) {a b : Nat} {off : Int} {tgt : Nat} (d : decode cc pc = .ok (.if_icmp .ge off, 3)) (ht : (pc : Int) + off = (tgt : Int)) (ha : a < 2 ^ 31) (hb2 : b < 2 ^ 31) (kt : b ≤ a → W p l e R s m args below meth c H locs cells slots Q (F0 m tgt ls rest)) (kf : a < b → W p l e R s m args below meth c H locs cells slots Q (F0 m (pc + 3) ls rest)) : W p l e R s m args below meth c H locs cells slots Q (F0 m pc ls (.int (nI b) :: .int (nI a) :: rest)) := lv_icmp_ge hx hb d ht (fun h => kt ((nI_leI hb2 ha).mp h)) (fun h => kf (Nat.lt_of_not_le (fun z => h ((nI_leI hb2 ha).mpr z))))
theorem z_icmp_gt (hx : p.tables.exec = Jvm.exec) (hb : c.code = cc) {a b : Nat} {off : Int} {tgt : Nat} (d : decode cc pc = .ok (.if_icmp .gt off, 3)) (ht : (pc : Int) + off = (tgt : Int)) (ha : a < 2 ^ 31) (hb2 : b < 2 ^ 31) (kt : b < a → W p l e R s m args below meth c H locs cells slots Q (F0 m tgt ls rest)) (kf : a ≤ b → W p l e R s m args below meth c H locs cells slots Q (F0 m (pc + 3) ls rest)) : W p l e R s m args below meth c H locs cells slots Q (F0 m pc ls (.int (nI b) :: .int (nI a) :: rest)) := lv_icmp_gt hx hb d ht (fun h => kt ((nI_ltI hb2 ha).mp h)) (fun h => kf (Nat.le_of_not_lt (fun z => h ((nI_ltI hb2 ha).mpr z))))
theorem z_icmp_lt (hx : p.tables.exec = Jvm.exec) (hb : c.code = cc) {a b : Nat} {off : Int} {tgt : Nat} (d : decode cc pc = .ok (.if_icmp .lt off, 3)) (ht : (pc : Int) + off = (tgt : Int)) (ha : a < 2 ^ 31) (hb2 : b < 2 ^ 31) (kt : a < b → W p l e R s m args below meth c H locs cells slots Q (F0 m tgt ls rest)) (kf : b ≤ a → W p l e R s m args below meth c H locs cells slots Q (F0 m (pc + 3) ls rest)) : W p l e R s m args below meth c H locs cells slots Q (F0 m pc ls (.int (nI b) :: .int (nI a) :: rest)) := lv_icmp_lt hx hb d ht (fun h => kt ((nI_ltI ha hb2).mp h)) (fun h => kf (Nat.le_of_not_lt (fun z => h ((nI_ltI ha hb2).mpr z))))
theorem z_icmp_le (hx : p.tables.exec = Jvm.exec) (hb : c.code = cc) {a b : Nat} {off : Int} {tgt : Nat} (d : decode cc pc = .ok (.if_icmp .le off, 3)) (ht : (pc : Int) + off = (tgt : Int)) (ha : a < 2 ^ 31) (hb2 : b < 2 ^ 31) (kt : a ≤ b → W p l e R s m args below meth c H locs cells slots Q (F0 m tgt ls rest)) (kf : b < a → W p l e R s m args below meth c H locs cells slots Q (F0 m (pc + 3) ls rest)) : W p l e R s m args below meth c H locs cells slots Q (F0 m pc ls (.int (nI b) :: .int (nI a) :: rest)) := lv_icmp_le hx hb d ht (fun h => kt ((nI_leI ha hb2).mp h)) (fun h => kf (Nat.lt_of_not_le (fun z => h ((nI_leI ha hb2).mpr z))))
theorem z_icmp_eq (hx : p.tables.exec = Jvm.exec) (hb : c.code = cc) {a b : Nat} {off : Int} {tgt : Nat} (d : decode cc pc = .ok (.if_icmp .eq off, 3)) (ht : (pc : Int) + off = (tgt : Int)) (ha : a < 2 ^ 31) (hb2 : b < 2 ^ 31) (kt : a = b → W p l e R s m args below meth c H locs cells slots Q (F0 m tgt ls rest)) (kf : a ≠ b → W p l e R s m args below meth c H locs cells slots Q (F0 m (pc + 3) ls rest)) : W p l e R s m args below meth c H locs cells slots Q (F0 m pc ls (.int (nI b) :: .int (nI a) :: rest)) := lv_icmp_eq hx hb d ht (fun h => kt ((nI_eq ha hb2).mp h)) (fun h => kf (id (fun z => h ((nI_eq ha hb2).mpr z))))
theorem z_icmp_ne (hx : p.tables.exec = Jvm.exec) (hb : c.code = cc) {a b : Nat} {off : Int} {tgt : Nat} (d : decode cc pc = .ok (.if_icmp .ne off, 3)) (ht : (pc : Int) + off = (tgt : Int)) (ha : a < 2 ^ 31) (hb2 : b < 2 ^ 31) (kt : a ≠ b → W p l e R s m args below meth c H locs cells slots Q (F0 m tgt ls rest)) (kf : a = b → W p l e R s m args below meth c H locs cells slots Q (F0 m (pc + 3) ls rest)) : W p l e R s m args below meth c H locs cells slots Q (F0 m pc ls (.int (nI b) :: .int (nI a) :: rest)) := lv_icmp_ne hx hb d ht (fun h => kt (fun z => h ((nI_eq ha hb2).mpr z))) (fun h => kf ((nI_eq ha hb2).mp h))
theorem z_if_eq (hx : p.tables.exec = Jvm.exec) (hb : c.code = cc) {a : Nat} {off : Int} {tgt : Nat} (d : decode cc pc = .ok (.ifCond .eq off, 3)) (ht : (pc : Int) + off = (tgt : Int)) (ha : a < 2 ^ 31) (kt : a = 0 → W p l e R s m args below meth c H locs cells slots Q (F0 m tgt ls rest)) (kf : a ≠ 0 → W p l e R s m args below meth c H locs cells slots Q (F0 m (pc + 3) ls rest)) : W p l e R s m args below meth c H locs cells slots Q (F0 m pc ls (.int (nI a) :: rest)) := lv_if_eq hx hb d ht (fun h => kt ((nI_eq ha (by decide)).mp h)) (fun h => kf (fun z => h ((nI_eq (b := 0) ha (by decide)).mpr z)))
theorem z_if_ne (hx : p.tables.exec = Jvm.exec) (hb : c.code = cc) {a : Nat} {off : Int} {tgt : Nat} (d : decode cc pc = .ok (.ifCond .ne off, 3)) (ht : (pc : Int) + off = (tgt : Int)) (ha : a < 2 ^ 31) (kt : a ≠ 0 → W p l e R s m args below meth c H locs cells slots Q (F0 m tgt ls rest)) (kf : a = 0 → W p l e R s m args below meth c H locs cells slots Q (F0 m (pc + 3) ls rest)) : W p l e R s m args below meth c H locs cells slots Q (F0 m pc ls (.int (nI a) :: rest)) := lv_if_ne hx hb d ht (fun h => kt (fun z => h ((nI_eq (b := 0) ha (by decide)).mpr z))) (fun h => kf ((nI_eq ha (by decide)).mp h))
theorem z_if_gt (hx : p.tables.exec = Jvm.exec) (hb : c.code = cc) {a : Nat} {off : Int} {tgt : Nat} (d : decode cc pc = .ok (.ifCond .gt off, 3)) (ht : (pc : Int) + off = (tgt : Int)) (ha : a < 2 ^ 31) (kt : 0 < a → W p l e R s m args below meth c H locs cells slots Q (F0 m tgt ls rest)) (kf : a = 0 → W p l e R s m args below meth c H locs cells slots Q (F0 m (pc + 3) ls rest)) : W p l e R s m args below meth c H locs cells slots Q (F0 m pc ls (.int (nI a) :: rest)) := lv_if_gt hx hb d ht (fun h => kt ((nI_ltI (a := 0) (by decide) ha).mp h)) (fun h => kf (by have z0 := mt (nI_ltI (a := 0) (by decide) ha).mpr h; omega))
theorem z_if_le (hx : p.tables.exec = Jvm.exec) (hb : c.code = cc) {a : Nat} {off : Int} {tgt : Nat} (d : decode cc pc = .ok (.ifCond .le off, 3)) (ht : (pc : Int) + off = (tgt : Int)) (ha : a < 2 ^ 31) (kt : a = 0 → W p l e R s m args below meth c H locs cells slots Q (F0 m tgt ls rest)) (kf : 0 < a → W p l e R s m args below meth c H locs cells slots Q (F0 m (pc + 3) ls rest)) : W p l e R s m args below meth c H locs cells slots Q (F0 m pc ls (.int (nI a) :: rest)) := lv_if_le hx hb d ht (fun h => kt (by have z0 := (nI_leI (b := 0) ha (by decide)).mp h; omega)) (fun h => kf (by have z0 := mt (nI_leI (b := 0) ha (by decide)).mpr h; omega))
theorem z_if_ge (hx : p.tables.exec = Jvm.exec) (hb : c.code = cc) {a : Nat} {off : Int} {tgt : Nat} (d : decode cc pc = .ok (.ifCond .ge off, 3)) (ht : (pc : Int) + off = (tgt : Int)) (ha : a < 2 ^ 31) (kt : True → W p l e R s m args below meth c H locs cells slots Q (F0 m tgt ls rest)) (kf : False → W p l e R s m args below meth c H locs cells slots Q (F0 m (pc + 3) ls rest)) : W p l e R s m args below meth c H locs cells slots Q (F0 m pc ls (.int (nI a) :: rest)) := lv_if_ge hx hb d ht (fun h => kt (trivial)) (fun h => kf (h (nI_pos' ha)))
theorem z_if_lt (hx : p.tables.exec = Jvm.exec) (hb : c.code = cc) {a : Nat} {off : Int} {tgt : Nat} (d : decode cc pc = .ok (.ifCond .lt off, 3)) (ht : (pc : Int) + off = (tgt : Int)) (ha : a < 2 ^ 31) (kt : False → W p l e R s m args below meth c H locs cells slots Q (F0 m tgt ls rest)) (kf : True → W p l e R s m args below meth c H locs cells slots Q (F0 m (pc + 3) ls rest)) : W p l e R s m args below meth c H locs cells slots Q (F0 m pc ls (.int (nI a) :: rest)) := lv_if_lt hx hb d ht (fun h => kt (nI_pos ha h)) (fun h => kf (trivial))
theorem z_cmp3 (x y : Int64) : (y < x ∧ lg_cmp x y = 1) ∨ (x = y ∧ lg_cmp x y = 0) ∨ (x < y ∧ lg_cmp x y = -1) := by
  unfold lg_cmp
  by_cases h1 : x > y
  · exact Or.inl ⟨h1, by rw [if_pos h1]⟩
  · rw [if_neg h1]
    by_cases h2 : x = y
    · exact Or.inr (Or.inl ⟨h2, by rw [if_pos h2]⟩)
    · rw [if_neg h2]
      refine Or.inr (Or.inr ⟨?_, rfl⟩)
      simp only [gt_iff_lt, Int64.lt_iff_toInt_lt, ← Int64.toInt_inj] at h1 h2 ⊢
      omega
theorem z_lif_gt (hx : p.tables.exec = Jvm.exec) (hb : c.code = cc) {x y : Int64} {off : Int} {tgt pc2 : Nat} (d : decode cc pc = .ok (.lcmp, 1)) (h2 : pc + 1 = pc2) (d2 : decode cc pc2 = .ok (.ifCond .gt off, 3)) (ht : (pc2 : Int) + off = (tgt : Int)) (kt : y < x → W p l e R s m args below meth c H locs cells slots Q (F0 m tgt ls rest)) (kf : x ≤ y → W p l e R s m args below meth c H locs cells slots Q (F0 m (pc2 + 3) ls rest)) : W p l e R s m args below meth c H locs cells slots Q (F0 m pc ls (.long y :: .long x :: rest)) := by
  subst h2
  refine W.lcmp hx hb d ?_
  refine lv_if_gt hx hb d2 ht (fun h => kt ?_) (fun h => kf ?_) <;> rcases z_cmp3 x y with ⟨h1, h3⟩ | ⟨h1, h3⟩ | ⟨h1, h3⟩ <;> rw [h3] at h <;> first | exact h1 | exact absurd h (by decide) | (simp only [Int64.lt_iff_toInt_lt, Int64.le_iff_toInt_le, ← Int64.toInt_inj] at h1 ⊢; omega)
theorem z_lif_le (hx : p.tables.exec = Jvm.exec) (hb : c.code = cc) {x y : Int64} {off : Int} {tgt pc2 : Nat} (d : decode cc pc = .ok (.lcmp, 1)) (h2 : pc + 1 = pc2) (d2 : decode cc pc2 = .ok (.ifCond .le off, 3)) (ht : (pc2 : Int) + off = (tgt : Int)) (kt : x ≤ y → W p l e R s m args below meth c H locs cells slots Q (F0 m tgt ls rest)) (kf : y < x → W p l e R s m args below meth c H locs cells slots Q (F0 m (pc2 + 3) ls rest)) : W p l e R s m args below meth c H locs cells slots Q (F0 m pc ls (.long y :: .long x :: rest)) := by
  subst h2
  refine W.lcmp hx hb d ?_
  refine lv_if_le hx hb d2 ht (fun h => kt ?_) (fun h => kf ?_) <;> rcases z_cmp3 x y with ⟨h1, h3⟩ | ⟨h1, h3⟩ | ⟨h1, h3⟩ <;> rw [h3] at h <;> first | exact h1 | exact absurd h (by decide) | (simp only [Int64.lt_iff_toInt_lt, Int64.le_iff_toInt_le, ← Int64.toInt_inj] at h1 ⊢; omega)
theorem z_lif_lt (hx : p.tables.exec = Jvm.exec) (hb : c.code = cc) {x y : Int64} {off : Int} {tgt pc2 : Nat} (d : decode cc pc = .ok (.lcmp, 1)) (h2 : pc + 1 = pc2) (d2 : decode cc pc2 = .ok (.ifCond .lt off, 3)) (ht : (pc2 : Int) + off = (tgt : Int)) (kt : x < y → W p l e R s m args below meth c H locs cells slots Q (F0 m tgt ls rest)) (kf : y ≤ x → W p l e R s m args below meth c H locs cells slots Q (F0 m (pc2 + 3) ls rest)) : W p l e R s m args below meth c H locs cells slots Q (F0 m pc ls (.long y :: .long x :: rest)) := by
  subst h2
  refine W.lcmp hx hb d ?_
  refine lv_if_lt hx hb d2 ht (fun h => kt ?_) (fun h => kf ?_) <;> rcases z_cmp3 x y with ⟨h1, h3⟩ | ⟨h1, h3⟩ | ⟨h1, h3⟩ <;> rw [h3] at h <;> first | exact h1 | exact absurd h (by decide) | (simp only [Int64.lt_iff_toInt_lt, Int64.le_iff_toInt_le, ← Int64.toInt_inj] at h1 ⊢; omega)
theorem z_lif_ge (hx : p.tables.exec = Jvm.exec) (hb : c.code = cc) {x y : Int64} {off : Int} {tgt pc2 : Nat} (d : decode cc pc = .ok (.lcmp, 1)) (h2 : pc + 1 = pc2) (d2 : decode cc pc2 = .ok (.ifCond .ge off, 3)) (ht : (pc2 : Int) + off = (tgt : Int)) (kt : y ≤ x → W p l e R s m args below meth c H locs cells slots Q (F0 m tgt ls rest)) (kf : x < y → W p l e R s m args below meth c H locs cells slots Q (F0 m (pc2 + 3) ls rest)) : W p l e R s m args below meth c H locs cells slots Q (F0 m pc ls (.long y :: .long x :: rest)) := by
  subst h2
  refine W.lcmp hx hb d ?_
  refine lv_if_ge hx hb d2 ht (fun h => kt ?_) (fun h => kf ?_) <;> rcases z_cmp3 x y with ⟨h1, h3⟩ | ⟨h1, h3⟩ | ⟨h1, h3⟩ <;> rw [h3] at h <;> first | exact h1 | exact absurd h (by decide) | (simp only [Int64.lt_iff_toInt_lt, Int64.le_iff_toInt_le, ← Int64.toInt_inj] at h1 ⊢; omega)
theorem z_lif_eq (hx : p.tables.exec = Jvm.exec) (hb : c.code = cc) {x y : Int64} {off : Int} {tgt pc2 : Nat} (d : decode cc pc = .ok (.lcmp, 1)) (h2 : pc + 1 = pc2) (d2 : decode cc pc2 = .ok (.ifCond .eq off, 3)) (ht : (pc2 : Int) + off = (tgt : Int)) (kt : x = y → W p l e R s m args below meth c H locs cells slots Q (F0 m tgt ls rest)) (kf : x ≠ y → W p l e R s m args below meth c H locs cells slots Q (F0 m (pc2 + 3) ls rest)) : W p l e R s m args below meth c H locs cells slots Q (F0 m pc ls (.long y :: .long x :: rest)) := by
  subst h2
  refine W.lcmp hx hb d ?_
  refine lv_if_eq hx hb d2 ht (fun h => kt ?_) (fun h => kf ?_) <;> rcases z_cmp3 x y with ⟨h1, h3⟩ | ⟨h1, h3⟩ | ⟨h1, h3⟩ <;> rw [h3] at h <;> first | exact h1 | exact absurd h (by decide) | (intro z; rw [z] at h1; exact absurd h1 (by simp only [Int64.lt_iff_toInt_lt]; omega))
theorem z_lif_ne (hx : p.tables.exec = Jvm.exec) (hb : c.code = cc) {x y : Int64} {off : Int} {tgt pc2 : Nat} (d : decode cc pc = .ok (.lcmp, 1)) (h2 : pc + 1 = pc2) (d2 : decode cc pc2 = .ok (.ifCond .ne off, 3)) (ht : (pc2 : Int) + off = (tgt : Int)) (kt : x ≠ y → W p l e R s m args below meth c H locs cells slots Q (F0 m tgt ls rest)) (kf : x = y → W p l e R s m args below meth c H locs cells slots Q (F0 m (pc2 + 3) ls rest)) : W p l e R s m args below meth c H locs cells slots Q (F0 m pc ls (.long y :: .long x :: rest)) := by
  subst h2
  refine W.lcmp hx hb d ?_
  refine lv_if_ne hx hb d2 ht (fun h => kt ?_) (fun h => kf ?_) <;> rcases z_cmp3 x y with ⟨h1, h3⟩ | ⟨h1, h3⟩ | ⟨h1, h3⟩ <;> rw [h3] at h <;> first | exact h1 | exact absurd h (by decide) | (intro z; rw [z] at h1; exact absurd h1 (by simp only [Int64.lt_iff_toInt_lt]; omega))
theorem z_iinc (hx : p.tables.exec = Jvm.exec) (hb : c.code = cc) {i nL k a : Nat} {lv lv' : List (Nat × Value)} (d : decode cc pc = .ok (.iinc i 1, 3)) (h : lv_has ls nL lv) (hk : lv[k]? = some (i, .int (nI a))) (hn : i < nL) (hl : (i, Value.int (nI (a + 1))) :: lv.filter (fun q => !(q.1 == i) && !(q.1 + 1 == i && q.2.category == 2)) = lv') (kk : ∀ ls' : Array Slot, lv_has ls' nL lv' → W p l e R s m args below meth c H locs cells slots Q (F0 m (pc + 3) ls' rest)) : W p l e R s m args below meth c H locs cells slots Q (F0 m pc ls rest) := lv_iinc hx hb d h hk (nI_1 a) hn hl kk
theorem z_iincm (hx : p.tables.exec = Jvm.exec) (hb : c.code = cc) {i nL k a : Nat} {lv lv' : List (Nat × Value)} (d : decode cc pc = .ok (.iinc i (-1), 3)) (h : lv_has ls nL lv) (hk : lv[k]? = some (i, .int (nI (a + 1)))) (hn : i < nL) (hl : (i, Value.int (nI a)) :: lv.filter (fun q => !(q.1 == i) && !(q.1 + 1 == i && q.2.category == 2)) = lv') (kk : ∀ ls' : Array Slot, lv_has ls' nL lv' → W p l e R s m args below meth c H locs cells slots Q (F0 m (pc + 3) ls' rest)) : W p l e R s m args below meth c H locs cells slots Q (F0 m pc ls rest) := lv_iinc hx hb d h hk (pk_m1 a) hn hl kk
variable {D : va_G} {cl : List vw_C} {A : Nat → Prop} {a : Nat} {tys : List (ClassId × FieldType)} {ws : va_W} {H0 : Heap}
theorem z_iald (hx : p.tables.exec = Jvm.exec) (hb : c.code = cc) (hK : va_K D cl tys s) (hP : va_P D cl ws H) (q0 t0 : Nat) {cA : ClassId} {n i : Nat} {f : Nat → Int32} (ha : ws[q0]? = some (a, .inl (cA, n, .inl f))) (ht : tys[t0]? = some (cA, .int)) (hi : i < n) (hn : n < 2 ^ 31) (d : decode cc pc = .ok (.iaload, 1)) (k : W p l e R s m args below meth c H locs cells slots Q (F0 m (pc + 1) ls (.int (f i) :: rest))) : W p l e R s m args below meth c H locs cells slots Q (F0 m pc ls (.int (nI i) :: .ref a :: rest)) := va_iald hx hb hK hP q0 t0 ha ht (vp_in_nI hi hn) d (zi (by rw [nI_clamp (Nat.lt_trans hi hn)]) k)
theorem z_iast (hx : p.tables.exec = Jvm.exec) (hb : c.code = cc) (hK : va_K D cl tys s) (hP : va_P D cl ws H) (hD : va_D A ws) (hS : va_S A H0 H locs) (q0 t0 : Nat) {cA : ClassId} {n i : Nat} {f : Nat → Int32} {x : Int32} (ha : ws[q0]? = some (a, .inl (cA, n, .inl f))) (ht : tys[t0]? = some (cA, .int)) (hi : i < n) (hn : n < 2 ^ 31) (d : decode cc pc = .ok (.iastore, 1)) (k : ∀ (H1 : Heap) (locs1 : List Loc), va_P D cl (ws.set q0 (a, .inl (cA, n, .inl (upd f i x)))) H1 → va_D A (ws.set q0 (a, .inl (cA, n, .inl (upd f i x)))) → va_S A H0 H1 locs1 → W p l e R s m args below meth c H1 locs1 cells slots Q (F0 m (pc + 1) ls rest)) : W p l e R s m args below meth c H locs cells slots Q (F0 m pc ls (.int x :: .int (nI i) :: .ref a :: rest)) := by
  refine va_iast hx hb hK hP hD hS q0 t0 ha ht (vp_in_nI hi hn) d ?_
  rw [nI_clamp (Nat.lt_trans hi hn)]
  exact k
end ZR
section ZT
variable {p : Program} {l : Launch} {e : Env} {R : Room} {s : State} {m : MethodId} {args : Array Value} {below : List Frame} {meth : Method} {c : Code} {H : Heap} {locs : List Loc} {cells slots : Nat} {cc : ByteArray} {pc : Nat} {ls : Array Slot} {g : zG} {A : Nat → Prop} {w1 : va_W} {XE : String → Prop} {w0 : va_W}
theorem z_iret (hx : p.tables.exec = Jvm.exec) (hb : c.code = cc) (hr : meth.sig.returnType = some .int) (hP : va_P g.1 vwCl w1 H) (hK : zK g s) (hD : va_D A w1) (hS : va_S A s.heap H locs) {post : Int32 → va_W → Prop} {v : Int32} (d : decode cc pc = .ok (.ireturn, 1)) (hlocks : meth.locks = false) (h : post v w1) : W p l e R s m args below meth c H locs cells slots (MQ below (va_Qi post (zOut g A) A) args s cells slots A) (F0 m pc ls [.int v]) := W.iret hx hb hr  (fun t ht hW => ⟨⟨v, w1, rfl, h, by rw [ht]; exact hP, hK.moved hW.alike, hD⟩, hS.F ht⟩) hS.2.2 d hlocks
theorem z_xiret (hx : p.tables.exec = Jvm.exec) (hb : c.code = cc) (hr : meth.sig.returnType = some .int) (hP : va_P g.1 vwCl w1 H) (hK : zK g s) (hD : va_D A w1) (hS : va_S A s.heap H locs) {post : Int32 → va_W → Prop} {v : Int32} (d : decode cc pc = .ok (.ireturn, 1)) (hlocks : meth.locks = false) (h : post v w1) : W p l e R s m args below meth c H locs cells slots (vx_MQ below (va_Qi post (zOut g A) A) (zQX g w0 XE A) args s cells slots A) (F0 m pc ls [.int v]) := vx_ret (z_iret hx hb hr hP hK hD hS d hlocks h)
theorem z_zret {v : Int32} (hx : p.tables.exec = Jvm.exec) (hb : c.code = cc) (hr : meth.sig.returnType = some .boolean) (hn : narrow .boolean (.int v) = .int v) (hP : va_P g.1 vwCl w1 H) (hK : zK g s) (hD : va_D A w1) (hS : va_S A s.heap H locs) {post : Int32 → va_W → Prop} (d : decode cc pc = .ok (.ireturn, 1)) (hlocks : meth.locks = false) (h : post v w1) : W p l e R s m args below meth c H locs cells slots (MQ below (va_Qi post (zOut g A) A) args s cells slots A) (F0 m pc ls [.int v]) := W.zret hx hb hr hn (fun t ht hW => ⟨⟨v, w1, rfl, h, by rw [ht]; exact hP, hK.moved hW.alike, hD⟩, hS.F ht⟩) hS.2.2 d hlocks
theorem z_xzret {v : Int32} (hx : p.tables.exec = Jvm.exec) (hb : c.code = cc) (hr : meth.sig.returnType = some .boolean) (hn : narrow .boolean (.int v) = .int v) (hP : va_P g.1 vwCl w1 H) (hK : zK g s) (hD : va_D A w1) (hS : va_S A s.heap H locs) {post : Int32 → va_W → Prop} (d : decode cc pc = .ok (.ireturn, 1)) (hlocks : meth.locks = false) (h : post v w1) : W p l e R s m args below meth c H locs cells slots (vx_MQ below (va_Qi post (zOut g A) A) (zQX g w0 XE A) args s cells slots A) (F0 m pc ls [.int v]) := vx_ret (z_zret hx hb hr hn hP hK hD hS d hlocks h)
theorem z_lret (hx : p.tables.exec = Jvm.exec) (hb : c.code = cc) (hr : meth.sig.returnType = some .long) (hP : va_P g.1 vwCl w1 H) (hK : zK g s) (hD : va_D A w1) (hS : va_S A s.heap H locs) {post : Int64 → va_W → Prop} {v : Int64} (d : decode cc pc = .ok (.lreturn, 1)) (hlocks : meth.locks = false) (h : post v w1) : W p l e R s m args below meth c H locs cells slots (MQ below (va_Ql post (zOut g A) A) args s cells slots A) (F0 m pc ls [.long v]) := W.lret hx hb hr  (fun t ht hW => ⟨⟨v, w1, rfl, h, by rw [ht]; exact hP, hK.moved hW.alike, hD⟩, hS.F ht⟩) hS.2.2 d hlocks
theorem z_xlret (hx : p.tables.exec = Jvm.exec) (hb : c.code = cc) (hr : meth.sig.returnType = some .long) (hP : va_P g.1 vwCl w1 H) (hK : zK g s) (hD : va_D A w1) (hS : va_S A s.heap H locs) {post : Int64 → va_W → Prop} {v : Int64} (d : decode cc pc = .ok (.lreturn, 1)) (hlocks : meth.locks = false) (h : post v w1) : W p l e R s m args below meth c H locs cells slots (vx_MQ below (va_Ql post (zOut g A) A) (zQX g w0 XE A) args s cells slots A) (F0 m pc ls [.long v]) := vx_ret (z_lret hx hb hr hP hK hD hS d hlocks h)
theorem z_vret (hx : p.tables.exec = Jvm.exec) (hb : c.code = cc) (hr : meth.sig.returnType = none) (hP : va_P g.1 vwCl w1 H) (hK : zK g s) (hD : va_D A w1) (hS : va_S A s.heap H locs) {post : va_W → Prop} (d : decode cc pc = .ok (.return_, 1)) (hlocks : meth.locks = false) (h : post w1) : W p l e R s m args below meth c H locs cells slots (MQ below (va_Qv post (zOut g A) A) args s cells slots A) (F0 m pc ls []) := W.vret hx hb hr (fun t ht hW => ⟨⟨w1, rfl, h, by rw [ht]; exact hP, hK.moved hW.alike, hD⟩, hS.F ht⟩) hS.2.2 d hlocks
theorem z_xvret (hx : p.tables.exec = Jvm.exec) (hb : c.code = cc) (hr : meth.sig.returnType = none) (hP : va_P g.1 vwCl w1 H) (hK : zK g s) (hD : va_D A w1) (hS : va_S A s.heap H locs) {post : va_W → Prop} (d : decode cc pc = .ok (.return_, 1)) (hlocks : meth.locks = false) (h : post w1) : W p l e R s m args below meth c H locs cells slots (vx_MQ below (va_Qv post (zOut g A) A) (zQX g w0 XE A) args s cells slots A) (F0 m pc ls []) := vx_ret (z_vret hx hb hr hP hK hD hS d hlocks h)
theorem z_xqret (hx : p.tables.exec = Jvm.exec) (hb : c.code = cc) {C : String} (hr : meth.sig.returnType = some (.object C)) (hP : va_P g.1 vwCl w1 H) (hK : zK g s) (hD : va_D A w1) (hS : va_S A s.heap H locs) {post : Option Nat → va_W → Prop} {v : Nat} (d : decode cc pc = .ok (.areturn, 1)) (hlocks : meth.locks = false) (h : post (some v) w1) : W p l e R s m args below meth c H locs cells slots (vx_MQ below (va_Qq post (zOut g A) A) (zQX g w0 XE A) args s cells slots A) (F0 m pc ls [.ref v]) := vx_ret (W.aret hx hb hr (Or.inl ⟨_, rfl⟩) (Or.inr ⟨_, rfl⟩) (fun t ht hW => ⟨⟨some v, w1, rfl, h, by rw [ht]; exact hP, hK.moved hW.alike, hD⟩, hS.F ht⟩) hS.2.2 d hlocks)
theorem z_out {rest : List Value} {E : String} {ce : Cell} {q : Addr} {mc ms : Nat} {Qc : Array Value → State → Outcome → State → Prop} (hout : ∀ x ∈ c.exceptionTable.toList, False) (hP : va_P g.1 vwCl w0 H) (hK : zK g s) (hD : va_D A w0) (hS : va_S A s.heap H locs) (hlocks : meth.locks = false) (hcell : H[q]? = some ce) (hv : ce.vm = .none) (hcl : s.vm.findClass E = some ce.cls) (hE : XE E) (hc : cells ≤ mc) (hs : slots ≤ ms) :
    vx_W p l e R s m args below meth c H locs cells slots (vx_MQ below Qc (zQX g w0 XE A) args s mc ms A) (F0 m pc ls rest) q :=
  vx_out (fun x hx => (hout x hx).elim) hlocks hcell hv hcl (fun t ht hW => ⟨w0, rfl, ⟨hE, by rw [ht]; exact hP, hK.moved hW, hD⟩, hS.F ht⟩) hS.2.2 hc hs
theorem zNW_t : ∀ w ∈ zNW, w.onTables = true := by decide +kernel
theorem z_throw {rest : List Value} {mc ms : Nat} {Qc : Array Value → State → Outcome → State → Prop} {cls text : String} {ik is ic : Nat} {Ts : List Cond} (hx : p.tables.exec = Jvm.exec) (hb : c.code = cc) (hl : l.stackTraces = false) (hown : s.vm.findClass "Usewise" = some m.cls) (hcls : Bundle.fit cls = true)
    (hts : ∀ w ∈ Ts, w.before args s = true) (hk : Cond.classLink "Usewise" ik cls ∈ Ts) (hini : Cond.initialized cls ∈ Ts) (hgw : ∀ w ∈ (vx_atS "Usewise" ic cls ["java/lang/RuntimeException", "java/lang/Exception"]).filter goodWord, w ∈ Ts) (hbw : ∀ w ∈ (vx_atS "Usewise" ic cls ["java/lang/RuntimeException", "java/lang/Exception"]).filter (fun w => !goodWord w), w ∈ zNW) (hot : ∀ w ∈ Cond.classLink "Usewise" ik cls :: Cond.initialized cls :: vx_atS "Usewise" ic cls ["java/lang/RuntimeException", "java/lang/Exception"], vx_ot w = true) (htx : (is, text) ∈ zSR)
    (hX : zX A s s.heap) (hA : ∀ q, s.heap.size ≤ q → A q) (hP : va_P g.1 vwCl w0 H) (hK : zK g s) (hD : va_D A w0) (hS : va_S A s.heap H locs) (hsize : ls.size = c.maxLocals)
    (d0 : decode cc pc = .ok (.new ik, 3)) (d3 : decode cc (pc + 3) = .ok (.dup, 1)) (d4 : decode cc (pc + 4) = .ok (.ldc is, 2)) (d6 : decode cc (pc + 6) = .ok (.invokespecial ic, 3)) (d9 : decode cc (pc + 9) = .ok (.athrow, 1))
    (hout : ∀ x ∈ c.exceptionTable.toList, False) (hRf : 5 < R.frames) (hRl : (rest.map fun v => v.category).sum + 82 ≤ R.locals) (hRc : cells + 1 ≤ R.cells) (hRs : slots + 6 ≤ R.slots) (hlocks : meth.locks = false) (hE : XE cls) (hc : cells + 1 ≤ mc) (hs : slots + 6 ≤ ms) :
    W p l e R s m args below meth c H locs cells slots (vx_MQ below Qc (zQX g w0 XE A) args s mc ms A) (F0 m pc ls rest) := by
  obtain ⟨sa, hsa⟩ := hX.2.2.2 _ htx
  refine vx_throwS hx hb hl (text := text) (names := ["java/lang/RuntimeException", "java/lang/Exception"]) (sa := sa) hown hcls (by decide +kernel) (hts _ hk) (hts _ hini) hsa
    (vx_hat (fun w hw => hts w (hgw w hw)) hbw (fun w hw => va_Nw.use (zNW_t w hw) (hX.2.2.1 w hw))) hot hX.1 hX.2.1 hS hsize d0 d3 d4 d6 d9 (fun x hx => (hout x hx).elim) hRf hRl hRc hRs hlocks ?_ hS.2.2 hc hs
  intro t hal hz hk1
  refine ⟨w0, rfl, ⟨hE, hP.kept (fun k q hq => hk1 q.1 ((hP k q hq).lt)), hK.moved hal, hD⟩, ⟨Nat.le_trans hS.1 hz, fun q h1 h2 => ?_⟩⟩
  rw [hk1 q (Nat.lt_of_lt_of_le h1 hS.1)]
  exact hS.2.1 q h1 h2
end ZT
end
section
/-! the numbers: worth, the state of a lease, its changes, its bounds -/
-- rows of kit/laws/COUNTS, pasted
theorem fb_rng (x : Int32) : -2147483648 ≤ x.toInt ∧ x.toInt < 2147483648 := by
  have h1 := Int32.le_toInt x
  have h2 := Int32.toInt_lt x
  omega
theorem fb_bmod {z : Int} (h1 : -2147483648 ≤ z) (h2 : z < 2147483648) : z.bmod (2 ^ 32) = z := by
  rw [Int.bmod_eq_of_le (by omega) (by omega)]
theorem fb_addI {x y : Int32} (h1 : -2147483648 ≤ x.toInt + y.toInt) (h2 : x.toInt + y.toInt < 2147483648) : (x + y).toInt = x.toInt + y.toInt := by
  rw [Int32.toInt_add, fb_bmod h1 h2]
theorem fb_subI {x y : Int32} (h1 : -2147483648 ≤ x.toInt - y.toInt) (h2 : x.toInt - y.toInt < 2147483648) : (x - y).toInt = x.toInt - y.toInt := by
  rw [Int32.toInt_sub, fb_bmod h1 h2]
theorem fb_mulI {x y : Int32} (h1 : -2147483648 ≤ x.toInt * y.toInt) (h2 : x.toInt * y.toInt < 2147483648) : (x * y).toInt = x.toInt * y.toInt := by
  rw [Int32.toInt_mul, fb_bmod h1 h2]
theorem fb_negI {x : Int32} (h : x.toInt ≠ -2147483648) : (-x).toInt = -x.toInt := by
  have := fb_rng x
  rw [Int32.toInt_neg, fb_bmod (by omega) (by omega)]
theorem fb_ofI {z : Int} (h1 : -2147483648 ≤ z) (h2 : z < 2147483648) : (Int32.ofInt z).toInt = z := by
  rw [Int32.toInt_ofInt, fb_bmod h1 h2]
theorem fb_asI (x : Int32) : Int32.ofInt x.toInt = x := Int32.ofInt_toInt x
theorem fb_rngL (x : Int64) : -9223372036854775808 ≤ x.toInt ∧ x.toInt < 9223372036854775808 := by
  have h1 := Int64.le_toInt x
  have h2 := Int64.toInt_lt x
  omega
theorem fb_bmodL {z : Int} (h1 : -9223372036854775808 ≤ z) (h2 : z < 9223372036854775808) : z.bmod (2 ^ 64) = z := by
  rw [Int.bmod_eq_of_le (by omega) (by omega)]
theorem fb_addL {x y : Int64} (h1 : -9223372036854775808 ≤ x.toInt + y.toInt) (h2 : x.toInt + y.toInt < 9223372036854775808) : (x + y).toInt = x.toInt + y.toInt := by
  rw [Int64.toInt_add, fb_bmodL h1 h2]
theorem fb_subL {x y : Int64} (h1 : -9223372036854775808 ≤ x.toInt - y.toInt) (h2 : x.toInt - y.toInt < 9223372036854775808) : (x - y).toInt = x.toInt - y.toInt := by
  rw [Int64.toInt_sub, fb_bmodL h1 h2]
theorem fb_mulL {x y : Int64} (h1 : -9223372036854775808 ≤ x.toInt * y.toInt) (h2 : x.toInt * y.toInt < 9223372036854775808) : (x * y).toInt = x.toInt * y.toInt := by
  rw [Int64.toInt_mul, fb_bmodL h1 h2]
-- end of the pasted rows
theorem z_m1 (k : Nat) : nI k - nI 1 = nI k + (-1) := by rw [Int32.sub_eq_add_neg]; rfl
theorem z_up {k : Nat} (h : 0 < k) : nI k + (-1) = nI (k - 1) := by
  obtain ⟨j, rfl⟩ : ∃ j, k = j + 1 := ⟨k - 1, by omega⟩
  exact pk_m1 j
theorem z32_64 (x : Int32) : x.toInt64.toInt32 = x := Int32.toInt32_toInt64 x
theorem z64_add (x y : Int64) : (x + y).toInt32 = x.toInt32 + y.toInt32 := Int64.toInt32_add x y
theorem z64_sub (x y : Int64) : (x - y).toInt32 = x.toInt32 - y.toInt32 := Int64.toInt32_sub x y
theorem z_upd_s (f : Nat → Int32) (k : Nat) (x : Int32) : upd f k x k = x := pk_us
theorem z_upd_n (f : Nat → Int32) {k j : Nat} (x : Int32) (h : j ≠ k) : upd f k x j = f j := pk_un h
theorem z_lt64 {a b : Nat} (ha : a < 2 ^ 63) (hb : b < 2 ^ 63) : lN a < lN b ↔ a < b := pk_lLT ha hb
def zB (r x : Nat) : Nat := (x * 1000000 + (1000000 + r) - 1) / (1000000 + r)
theorem zB_iff (r x q : Nat) : zB r x ≤ q ↔ x * 1000000 ≤ q * (1000000 + r) := by
  unfold zB
  have h : ∀ q, (x * 1000000 + (1000000 + r) - 1) / (1000000 + r) < q + 1 ↔ x * 1000000 + (1000000 + r) - 1 < (q + 1) * (1000000 + r) := fun q => Nat.div_lt_iff_lt_mul (by omega)
  have h2 := h q
  rw [Nat.add_mul, Nat.one_mul] at h2
  constructor
  · intro h1
    have := h2.mp (by omega)
    omega
  · intro h1
    have := h2.mpr (by omega)
    omega
theorem zB_ge (r x : Nat) : x * 1000000 ≤ zB r x * (1000000 + r) := (zB_iff r x _).mp (Nat.le_refl _)
theorem zB_lt (r x : Nat) : zB r x * (1000000 + r) ≤ x * 1000000 + (1000000 + r) - 1 := Nat.div_mul_le_self _ _
theorem zB_le (r x : Nat) : zB r x ≤ x := (zB_iff r x x).mpr (Nat.mul_le_mul_left x (by omega))
theorem zB_mono (r : Nat) {x y : Nat} (h : x ≤ y) : zB r x ≤ zB r y := (zB_iff r x _).mpr (Nat.le_trans (Nat.mul_le_mul_right _ h) (zB_ge r y))
theorem zB_anti {r r' : Nat} (h : r ≤ r') (x : Nat) : zB r' x ≤ zB r x := (zB_iff r' x _).mpr (Nat.le_trans (zB_ge r x) (Nat.mul_le_mul_left _ (by omega)))
theorem zB_add (r y e : Nat) : zB r (y + e) ≤ zB r y + e := (zB_iff r _ _).mpr (by
  rw [Nat.add_mul, Nat.add_mul]
  exact Nat.add_le_add (zB_ge r y) (Nat.mul_le_mul_left e (by omega)))
/-- the worth of the last n payments of T -/
def zWr (r : Nat) (p : Nat → Nat) (T : Nat) : Nat → Nat
  | 0 => 0
  | n + 1 => zB r (zWr r p T n + p (T - (n + 1)))
theorem zWr_0 (r : Nat) (p : Nat → Nat) (T : Nat) : zWr r p T 0 = 0 := rfl
theorem zWr_s (r : Nat) (p : Nat → Nat) (T n : Nat) : zWr r p T (n + 1) = zB r (zWr r p T n + p (T - (n + 1))) := rfl
theorem zWr_at (r : Nat) (p : Nat → Nat) {T j : Nat} (h : j < T) : zWr r p T (T - j) = zB r (zWr r p T (T - (j + 1)) + p j) := by
  rw [show T - j = (T - (j + 1)) + 1 by omega, zWr_s, show T - (T - (j + 1) + 1) = j by omega]
theorem zWr_cong {r : Nat} {p q : Nat → Nat} {T : Nat} : ∀ n, (∀ j, T - n ≤ j → j < T → p j = q j) → n ≤ T → zWr r p T n = zWr r q T n
  | 0, _, _ => rfl
  | n + 1, h, hn => by
    rw [zWr_s, zWr_s, zWr_cong n (fun j h1 h2 => h j (by omega) h2) (by omega), h (T - (n + 1)) (Nat.le_refl _) (by omega)]
theorem zWr_le {r M : Nat} {p : Nat → Nat} {T : Nat} : ∀ n, (∀ j, T - n ≤ j → j < T → p j ≤ M) → n ≤ T → zWr r p T n ≤ M * n
  | 0, _, _ => Nat.zero_le _
  | n + 1, h, hn => by
    have h1 := zWr_le (r := r) n (fun j h1 h2 => h j (by omega) h2) (by omega)
    have h2 := h (T - (n + 1)) (Nat.le_refl _) (by omega)
    have h3 := zB_le r (zWr r p T n + p (T - (n + 1)))
    rw [zWr_s, Nat.mul_add, Nat.mul_one]
    omega
theorem zWr_anti {r r' : Nat} (h : r ≤ r') (p : Nat → Nat) (T : Nat) : ∀ n, zWr r' p T n ≤ zWr r p T n
  | 0 => Nat.le_refl _
  | n + 1 => by
    rw [zWr_s, zWr_s]
    exact Nat.le_trans (zB_mono r' (Nat.add_le_add_right (zWr_anti h p T n) _)) (zB_anti h _)
theorem zWr_step (r : Nat) (p : Nat → Nat) {T j : Nat} (h : j < T) : zWr r p T (T - j) ≤ zWr r p T (T - (j + 1)) + p j := by
  rw [zWr_at r p h]; exact zB_le _ _
/-- months taken off -/
theorem zWr_off {r M : Nat} {p : Nat → Nat} {T k : Nat} : ∀ m, (∀ j, T - (m + k) ≤ j → j < T → p j ≤ M) → m + k ≤ T → zWr r p T (m + k) ≤ zWr r p (T - k) m + M * k
  | 0, h, hk => by
    rw [Nat.zero_add] at h hk ⊢
    rw [zWr_0, Nat.zero_add]
    exact zWr_le k h hk
  | m + 1, h, hk => by
    have h1 := zWr_off (r := r) (k := k) m (fun j h1 h2 => h j (by omega) h2) (by omega)
    rw [show m + 1 + k = (m + k) + 1 by omega, zWr_s, zWr_s, show T - (m + k + 1) = T - k - (m + 1) by omega]
    refine Nat.le_trans (zB_mono r (y := zWr r p (T - k) m + p (T - k - (m + 1)) + M * k) (by omega)) (zB_add r _ _)
def zSc (a : Nat) (p : Nat → Nat) : Nat → Nat := fun j => p j * a / 100
theorem zWr_cut {r a : Nat} (ha : a ≤ 100) (p : Nat → Nat) (T : Nat) : ∀ n, a * zWr r p T n ≤ 100 * zWr r (zSc a p) T n + 200 * n
  | 0 => by rw [zWr_0]; omega
  | n + 1 => by
    have ih := zWr_cut (r := r) ha p T n
    rw [zWr_s, zWr_s]
    generalize hq : p (T - (n + 1)) = q
    have hq2 : zSc a p (T - (n + 1)) = q * a / 100 := by unfold zSc; rw [hq]
    rw [hq2]
    generalize zWr r p T n = w at ih ⊢
    generalize zWr r (zSc a p) T n = w' at ih ⊢
    have h1 := zB_lt r (w + q)
    have h2 := zB_ge r (w' + q * a / 100)
    generalize zB r (w + q) = y at h1 ⊢
    generalize zB r (w' + q * a / 100) = y' at h2 ⊢
    have h3 : q * a ≤ 100 * (q * a / 100) + 99 := by omega
    generalize q * a / 100 = q' at h2 h3 ⊢
    have hd : 0 < 1000000 + r := by omega
    have h4 : a * (w + q) ≤ 100 * (w' + q') + (200 * n + 99) := by
      rw [Nat.mul_add, Nat.mul_comm a q]; omega
    have h5 : a * y * (1000000 + r) ≤ (100 * y' + 200 * (n + 1)) * (1000000 + r) := by
      have e1 : a * y * (1000000 + r) = a * (y * (1000000 + r)) := Nat.mul_assoc _ _ _
      have e2 : a * (y * (1000000 + r)) ≤ a * ((w + q) * 1000000 + (1000000 + r)) := Nat.mul_le_mul_left a (by omega)
      have e3 : a * ((w + q) * 1000000 + (1000000 + r)) = a * (w + q) * 1000000 + a * (1000000 + r) := by rw [Nat.mul_add, Nat.mul_assoc]
      have e4 : a * (w + q) * 1000000 ≤ (100 * (w' + q') + (200 * n + 99)) * 1000000 := Nat.mul_le_mul_right _ h4
      have e5 : a * (1000000 + r) ≤ 100 * (1000000 + r) := Nat.mul_le_mul_right _ ha
      have e6 : (100 * y' + 200 * (n + 1)) * (1000000 + r) = 100 * (y' * (1000000 + r)) + (200 * n + 200) * (1000000 + r) := by rw [Nat.add_mul, Nat.mul_assoc, Nat.mul_add 200 n 1]
      have e7 : (200 * n + 200) * (1000000 + r) = (200 * n + 100) * (1000000 + r) + 100 * (1000000 + r) := by rw [← Nat.add_mul]
      have e8 : (200 * n + 100) * 1000000 ≤ (200 * n + 100) * (1000000 + r) := Nat.mul_le_mul_left _ (by omega)
      omega
    exact Nat.le_of_mul_le_mul_right h5 hd
/-- a lease: months in all, months past, payments, right, interest, paid, written, gains -/
abbrev zS : Type := Nat × Nat × (Nat → Nat) × Nat × Int32 × Int32 × Int32 × Int32
def zD (r : Nat) : zS → Nat := fun (T, P, p, _, _, _, _, _) => zWr r p T (T - P)
def zInv (r f : Nat) : zS → Prop := fun (T, P, p, R, _, _, _, _) => T ≤ 120 ∧ P ≤ T ∧ r ≤ 20000 ∧ f ≤ 120 ∧ (∀ j, P ≤ j → j < T → p j ≤ 1000000) ∧ R ≤ zWr r p T (T - P) + 120000000 + 1000000 * P
theorem zInv_D {r f T P R : Nat} {p : Nat → Nat} {I Pd W G : Int32} (h : zInv r f (T, P, p, R, I, Pd, W, G)) : zWr r p T (T - P) ≤ 1000000 * (T - P) := by
  obtain ⟨h1, h2, h3, h4, h5, h6⟩ := h
  exact zWr_le (T - P) (fun j a b => h5 j (by omega) b) (by omega)
theorem zInv_R {r f T P R : Nat} {p : Nat → Nat} {I Pd W G : Int32} (h : zInv r f (T, P, p, R, I, Pd, W, G)) : R ≤ 240000000 := by
  have h0 := zInv_D h
  obtain ⟨h1, h2, h3, h4, h5, h6⟩ := h
  omega
/-- any month's worth -/
theorem zInv_W {r f T P R : Nat} {p : Nat → Nat} {I Pd W G : Int32} (h : zInv r f (T, P, p, R, I, Pd, W, G)) (r' j : Nat) (hj : P ≤ j) : zWr r' p T (T - j) ≤ 120000000 := by
  obtain ⟨h1, h2, h3, h4, h5, h6⟩ := h
  have := zWr_le (r := r') (M := 1000000) (p := p) (T := T) (T - j) (fun i a b => h5 i (by omega) b) (by omega)
  omega
def zMW (f T P : Nat) : Nat := max 1 (min (T - P) (f - P))
def zMonth (r f : Nat) : zS → zS := fun (T, P, p, R, I, Pd, W, G) => (T, P + 1, p, R - R / zMW f T P, I + (nI (zWr r p T (T - (P + 1))) + nI (p P) - nI (zWr r p T (T - P))), Pd + nI (p P), W + nI (R / zMW f T P), G)
def zIt (r f : Nat) : Nat → zS → zS
  | 0, z => z
  | n + 1, z => zMonth r f (zIt r f n z)
/-- the debt is laid again, the right follows -/
def zFol (r : Nat) (T' : Nat) (p' : Nat → Nat) : zS → zS := fun (T, P, p, R, I, Pd, W, G) =>
  if R + zWr r p' T' (T' - P) < zWr r p T (T - P) then (T', P, p', 0, I, Pd, W, G - (nI R + (nI (zWr r p' T' (T' - P)) - nI (zWr r p T (T - P))))) else (T', P, p', R + zWr r p' T' (T' - P) - zWr r p T (T - P), I, Pd, W, G)
def zGn (r : Nat) (T' : Nat) (p' : Nat → Nat) (R' : Nat) : zS → Int32 := fun (T, P, p, R, _, _, _, _) => nI (zWr r p T (T - P)) - nI (zWr r p' T' (T' - P)) - (nI R - nI R')
/-- a part is given up -/
def zGiv (r : Nat) (T' : Nat) (p' : Nat → Nat) (R' : Nat) : zS → zS := fun (T, P, p, R, I, Pd, W, G) => (T', P, p', R', I, Pd, W, G + zGn r T' p' R' (T, P, p, R, I, Pd, W, G))
def zPut (T k x : Nat) (p : Nat → Nat) : Nat → Nat := fun j => if T ≤ j ∧ j < T + k then x else p j
theorem zInv_month {r f T P R : Nat} {p : Nat → Nat} {I Pd W G : Int32} (h : zInv r f (T, P, p, R, I, Pd, W, G)) (hP : P < T) : zInv r f (zMonth r f (T, P, p, R, I, Pd, W, G)) := by
  obtain ⟨h1, h2, h3, h4, h5, h6⟩ := h
  refine ⟨h1, hP, h3, h4, fun j a b => h5 j (by omega) b, ?_⟩
  have := zWr_step r p hP
  have := h5 P (Nat.le_refl _) hP
  have : R - R / zMW f T P ≤ R := Nat.sub_le _ _
  omega
theorem zIt_T (r f : Nat) (z : zS) : ∀ n, (zIt r f n z).1 = z.1
  | 0 => rfl
  | n + 1 => zIt_T r f z n
theorem zIt_P (r f : Nat) (z : zS) : ∀ n, (zIt r f n z).2.1 = z.2.1 + n
  | 0 => rfl
  | n + 1 => by
    show (zIt r f n z).2.1 + 1 = _
    rw [zIt_P r f z n]; rfl
theorem zInv_it {r f : Nat} {z : zS} (h : zInv r f z) : ∀ n, z.2.1 + n ≤ z.1 → zInv r f (zIt r f n z)
  | 0, _ => h
  | n + 1, hn => by
    have h1 := zInv_it h n (by omega)
    have h2 := zIt_T r f z n
    have h3 := zIt_P r f z n
    show zInv r f (zMonth r f (zIt r f n z))
    generalize zIt r f n z = y at h1 h2 h3
    obtain ⟨T, P, p, R, I, Pd, W, G⟩ := y
    exact zInv_month h1 (by dsimp only at h2 h3; omega)
theorem zInv_fol {r f T P R : Nat} {p : Nat → Nat} {I Pd W G : Int32} {T' : Nat} {p' : Nat → Nat} (h : zInv r f (T, P, p, R, I, Pd, W, G)) (hT : T' ≤ 120) (hP : P ≤ T') (hp : ∀ j, P ≤ j → j < T' → p' j ≤ 1000000) : zInv r f (zFol r T' p' (T, P, p, R, I, Pd, W, G)) := by
  obtain ⟨h1, h2, h3, h4, h5, h6⟩ := h
  unfold zFol
  dsimp only
  split
  · exact ⟨hT, hP, h3, h4, hp, by omega⟩
  · exact ⟨hT, hP, h3, h4, hp, by omega⟩
theorem zInv_cut {r f T P R : Nat} {p : Nat → Nat} {I Pd W G : Int32} {a : Nat} (h : zInv r f (T, P, p, R, I, Pd, W, G)) (ha : a ≤ 99) : zInv r f (zGiv r T (zSc a p) (R * a / 100) (T, P, p, R, I, Pd, W, G)) := by
  obtain ⟨h1, h2, h3, h4, h5, h6⟩ := h
  refine ⟨h1, h2, h3, h4, fun j x y => ?_, ?_⟩
  · have := h5 j x y
    have : p j * a ≤ p j * 100 := Nat.mul_le_mul_left _ (by omega)
    show p j * a / 100 ≤ 1000000
    omega
  · have h7 := zWr_cut (r := r) (a := a) (by omega) p T (T - P)
    have h8 : R * a ≤ (zWr r p T (T - P) + (120000000 + 1000000 * P)) * a := Nat.mul_le_mul_right a (by omega)
    rw [Nat.add_mul, Nat.mul_comm (zWr r p T (T - P)) a] at h8
    have h9 : (120000000 + 1000000 * P) * a ≤ (120000000 + 1000000 * P) * 99 := Nat.mul_le_mul_left _ ha
    omega
theorem zInv_off {r f T P R : Nat} {p : Nat → Nat} {I Pd W G : Int32} {k : Nat} (h : zInv r f (T, P, p, R, I, Pd, W, G)) (hk : k < T - P) : zInv r f (zGiv r (T - k) p (R * (T - k - P) / (T - P)) (T, P, p, R, I, Pd, W, G)) := by
  obtain ⟨h1, h2, h3, h4, h5, h6⟩ := h
  refine ⟨by omega, by omega, h3, h4, fun j x y => h5 j x (by omega), ?_⟩
  have h7 := zWr_off (r := r) (M := 1000000) (p := p) (T := T) (k := k) (T - k - P) (fun j a b => h5 j (by omega) b) (by omega)
  rw [show T - k - P + k = T - P by omega] at h7
  generalize hl : T - P = l at *
  have hl2 : T - k - P = l - k := by omega
  rw [hl2] at h7 ⊢
  rcases Nat.lt_or_ge R (1000000 * l) with hR | hR
  · have : R * (l - k) / l ≤ R := by
      refine Nat.le_trans (Nat.div_le_div_right (Nat.mul_le_mul_left R (Nat.sub_le l k))) ?_
      rw [Nat.mul_div_cancel _ (by omega)]
      exact Nat.le_refl R
    omega
  · have hx : R * (l - k) / l ≤ R - 1000000 * k := by
      have e1 : R * (l - k) ≤ (R - 1000000 * k) * l := by
        rw [Nat.mul_sub, Nat.sub_mul]
        have : 1000000 * k * l ≤ R * k := by
          rw [Nat.mul_right_comm]
          exact Nat.mul_le_mul_right k hR
        omega
      exact Nat.le_trans (Nat.div_le_div_right e1) (by rw [Nat.mul_div_cancel _ (by omega)]; exact Nat.le_refl _)
    omega
/-- what a lease's cells hold beside the numbers: interest, paid, written, gains as longs; payments, debts -/
abbrev zRaw : Type := Int64 × Int64 × Int64 × Int64 × (Nat → Int32) × (Nat → Int32)
abbrev zLW (g : zG) (a : Nat × Nat × Nat) (rt lf : Nat) (z : zS) (q : zRaw) : va_W := [(a.1, .inr (0, [.int (nI rt), .int (nI lf), .ref a.2.1, .ref a.2.2, .int (nI z.1), .int (nI z.2.1), .long (lN z.2.2.2.1), .long q.1, .long q.2.1, .long q.2.2.1, .long q.2.2.2.1])), (a.2.1, .inl (g.2.1, 120, .inl q.2.2.2.2.1)), (a.2.2, .inl (g.2.1, 121, .inl q.2.2.2.2.2))]
def zCR (rt : Nat) : zS → zRaw → Prop := fun (T, P, p, _, I, Pd, W, G) (xI, xP, xW, xG, u, v) => xI.toInt32 = I ∧ xP.toInt32 = Pd ∧ xW.toInt32 = W ∧ xG.toInt32 = G ∧ (∀ j, P ≤ j → j < T → u j = nI (p j)) ∧ ∀ j, P ≤ j → j ≤ T → v j = nI (zWr rt p T (T - j))
theorem z_fol1 {R D0 D1 : Nat} (h : D0 ≤ R + D1) : lN R + (lN D1 - lN D0) = lN (R + D1 - D0) := by
  rw [← lN_sub h, ← lN_add, Int64.sub_eq_add_neg, Int64.sub_eq_add_neg, Int64.add_assoc]
theorem z_fol2 {R D0 D1 : Nat} (h : R + D1 < D0) (hD : D0 < 2 ^ 31) : lN R + (lN D1 - lN D0) < lN 0 := by
  have e1 := fb_subL (x := lN D1) (y := lN D0) (by rw [lN_toInt (by omega), lN_toInt (by omega)]; omega) (by rw [lN_toInt (by omega), lN_toInt (by omega)]; omega)
  rw [lN_toInt (by omega), lN_toInt (by omega)] at e1
  rw [Int64.lt_iff_toInt_lt, fb_addL (by rw [e1, lN_toInt (by omega)]; omega) (by rw [e1, lN_toInt (by omega)]; omega), e1, lN_toInt (by omega), lN_toInt (by omega)]
  omega
end
section
/-! the class of a lease: its reads -/
theorem z_nIneg {a b : Nat} (ha : a < 2 ^ 30) (hb : b < 2 ^ 30) : (nI a - nI b).toInt = (a : Int) - b := pk_sub_toInt ha hb
theorem z_mwo {lf T P : Nat} (h : P ≤ T) (hT : T ≤ 120) (hlf : lf ≤ 120) : (if nI 1 < (if nI lf - nI P < nI (T - P) then nI lf - nI P else nI (T - P)) then (if nI lf - nI P < nI (T - P) then nI lf - nI P else nI (T - P)) else nI 1) = nI (zMW lf T P) := by
  have e1 : (nI lf - nI P).toInt = (lf : Int) - P := pk_sub_toInt (by omega) (by omega)
  have e2 : (nI (T - P)).toInt = ((T - P : Nat) : Int) := nI_toInt (by omega)
  have e3 : (nI 1).toInt = 1 := nI_toInt (n := 1) (by omega)
  have e4 : (nI (zMW lf T P)).toInt = ((zMW lf T P : Nat) : Int) := nI_toInt (by unfold zMW; omega)
  have e5 : zMW lf T P = max 1 (min (T - P) (lf - P)) := rfl
  rw [← Int32.toInt_inj]
  by_cases c1 : nI lf - nI P < nI (T - P)
  · rw [if_pos c1]
    rw [Int32.lt_iff_toInt_lt, e1, e2] at c1
    by_cases c2 : nI 1 < nI lf - nI P
    · rw [if_pos c2]; rw [Int32.lt_iff_toInt_lt, e1, e3] at c2; omega
    · rw [if_neg c2]; rw [Int32.lt_iff_toInt_lt, e1, e3] at c2; omega
  · rw [if_neg c1]
    rw [Int32.lt_iff_toInt_lt, e1, e2] at c1
    by_cases c2 : nI 1 < nI (T - P)
    · rw [if_pos c2]; rw [Int32.lt_iff_toInt_lt, e2, e3] at c2; omega
    · rw [if_neg c2]; rw [Int32.lt_iff_toInt_lt, e2, e3] at c2; omega
set_option maxHeartbeats 4000000 in
set_option maxRecDepth 100000 in
theorem c_monthsLeft (l : Launch) (g : zG) (h pa da rt lf T P : Nat) (R xI xP xW xG : Int64) (u v : Nat → Int32) (hPT : P ≤ T) : zMi l yX0_monthsLeft wsX0_monthsLeft ({ frames := 0, cells := 0, slots := 0, locals := 0 } : Room) [.ref h] g [(h, .inr (0, [.int (nI rt), .int (nI lf), .ref pa, .ref da, .int (nI T), .int (nI P), .long R, .long xI, .long xP, .long xW, .long xG])), (pa, .inl (g.2.1, 120, .inl u)), (da, .inl (g.2.1, 121, .inl v))] (fun q w => q = nI (T - P) ∧ w = [(h, .inr (0, [.int (nI rt), .int (nI lf), .ref pa, .ref da, .int (nI T), .int (nI P), .long R, .long xI, .long xP, .long xW, .long xG])), (pa, .inl (g.2.1, 120, .inl u)), (da, .inl (g.2.1, 121, .inl v))]) 0 0 := by
  intro sz A hAe
  refine Met.ofW (cc := cX0_monthsLeft) (maxL := 1) (ret := some .int) (by decide) rfl ?_
  intro p e s m args below meth c s₁ B hml hv
  obtain ⟨rfl, hsz, hP, hK, hD0⟩ := hv
  have hx := B.exec
  have hb := B.bytes
  have hr := B.returns
  have hts := atoms_spec (ws := wsX0_monthsLeft) B.pre
  have hown : s.vm.findClass RX0 = some m.cls := findClass_of_methodNamed B.named
  have hlocks := B.notSynchronized
  obtain ⟨hD, hA, hS⟩ := z_in hsz hAe hD0
  have hl := lv_entry ([.ref h]) (n := 1) (Nat.le_of_ble_eq_true rfl)
  rw [lg_entry_eq]
  generalize (lg_sl ([.ref h]) ++ List.replicate (1 - (lg_sl ([.ref h])).length) Slot.unset).toArray = ls at hl ⊢
  have hl : lv_has ls 1 [(0, .ref h)] := hl
  have hinX0 : ∀ w ∈ wsX00, w ∈ wsX0_monthsLeft := by decide +kernel
  refine lv_aload_n hx hb dX0_monthsLeft_0 rfl (lv_at hl 0 rfl) ?_
  refine va_get (D := g.1) (ci := 0) (v := .int (nI T)) (C := RX0) (T := TX0) (N := 11) hx hb hts hinX0 hown hK hP 0 rfl rfl 4 (by decide) (hts (.fieldLink RX0 27 "Usewise$Lease" "term" "I") (by decide +kernel)) (fun _ h9 => h9) rfl dX0_monthsLeft_1 ?_
  refine lv_aload_n hx hb dX0_monthsLeft_4 rfl (lv_at hl 0 rfl) ?_
  refine va_get (D := g.1) (ci := 0) (v := .int (nI P)) (C := RX0) (T := TX0) (N := 11) hx hb hts hinX0 hown hK hP 0 rfl rfl 5 (by decide) (hts (.fieldLink RX0 48 "Usewise$Lease" "past" "I") (by decide +kernel)) (fun _ h9 => h9) rfl dX0_monthsLeft_5 ?_
  refine z_isub hx hb dX0_monthsLeft_8 (by omega) ?_
  exact z_iret hx hb hr hP hK hD hS dX0_monthsLeft_9 hlocks (⟨rfl, rfl⟩)

set_option maxHeartbeats 4000000 in
set_option maxRecDepth 100000 in
theorem c_debtNow (l : Launch) (g : zG) (h pa da rt lf T P : Nat) (R xI xP xW xG : Int64) (u v : Nat → Int32) (hP0 : P ≤ 120) : zMi l yX0_debtNow wsX0_debtNow ({ frames := 0, cells := 0, slots := 0, locals := 0 } : Room) [.ref h] g [(h, .inr (0, [.int (nI rt), .int (nI lf), .ref pa, .ref da, .int (nI T), .int (nI P), .long R, .long xI, .long xP, .long xW, .long xG])), (pa, .inl (g.2.1, 120, .inl u)), (da, .inl (g.2.1, 121, .inl v))] (fun q w => q = v P ∧ w = [(h, .inr (0, [.int (nI rt), .int (nI lf), .ref pa, .ref da, .int (nI T), .int (nI P), .long R, .long xI, .long xP, .long xW, .long xG])), (pa, .inl (g.2.1, 120, .inl u)), (da, .inl (g.2.1, 121, .inl v))]) 0 0 := by
  intro sz A hAe
  refine Met.ofW (cc := cX0_debtNow) (maxL := 1) (ret := some .int) (by decide) rfl ?_
  intro p e s m args below meth c s₁ B hml hv
  obtain ⟨rfl, hsz, hP, hK, hD0⟩ := hv
  have hx := B.exec
  have hb := B.bytes
  have hr := B.returns
  have hts := atoms_spec (ws := wsX0_debtNow) B.pre
  have hown : s.vm.findClass RX0 = some m.cls := findClass_of_methodNamed B.named
  have hlocks := B.notSynchronized
  obtain ⟨hD, hA, hS⟩ := z_in hsz hAe hD0
  have hl := lv_entry ([.ref h]) (n := 1) (Nat.le_of_ble_eq_true rfl)
  rw [lg_entry_eq]
  generalize (lg_sl ([.ref h]) ++ List.replicate (1 - (lg_sl ([.ref h])).length) Slot.unset).toArray = ls at hl ⊢
  have hl : lv_has ls 1 [(0, .ref h)] := hl
  have hinX0 : ∀ w ∈ wsX00, w ∈ wsX0_debtNow := by decide +kernel
  refine lv_aload_n hx hb dX0_debtNow_0 rfl (lv_at hl 0 rfl) ?_
  refine va_get (D := g.1) (ci := 0) (v := .ref da) (C := RX0) (T := TX0) (N := 11) hx hb hts hinX0 hown hK hP 0 rfl rfl 3 (by decide) (hts (.fieldLink RX0 34 "Usewise$Lease" "debts" "[I") (by decide +kernel)) (fun _ h9 => h9) rfl dX0_debtNow_1 ?_
  refine lv_aload_n hx hb dX0_debtNow_4 rfl (lv_at hl 0 rfl) ?_
  refine va_get (D := g.1) (ci := 0) (v := .int (nI P)) (C := RX0) (T := TX0) (N := 11) hx hb hts hinX0 hown hK hP 0 rfl rfl 5 (by decide) (hts (.fieldLink RX0 48 "Usewise$Lease" "past" "I") (by decide +kernel)) (fun _ h9 => h9) rfl dX0_debtNow_5 ?_
  refine z_iald hx hb hK hP 2 0 rfl rfl (by omega) (by decide) dX0_debtNow_8 ?_
  exact z_iret hx hb hr hP hK hD hS dX0_debtNow_9 hlocks (⟨rfl, rfl⟩)

set_option maxHeartbeats 4000000 in
set_option maxRecDepth 100000 in
theorem c_paymentIn (l : Launch) (g : zG) (h pa da rt lf T P : Nat) (R xI xP xW xG : Int64) (u v : Nat → Int32) (k : Nat) (hk : P + k < 120) : zMi l yX0_paymentIn wsX0_paymentIn ({ frames := 0, cells := 0, slots := 0, locals := 0 } : Room) [.ref h, .int (nI k)] g [(h, .inr (0, [.int (nI rt), .int (nI lf), .ref pa, .ref da, .int (nI T), .int (nI P), .long R, .long xI, .long xP, .long xW, .long xG])), (pa, .inl (g.2.1, 120, .inl u)), (da, .inl (g.2.1, 121, .inl v))] (fun q w => q = u (P + k) ∧ w = [(h, .inr (0, [.int (nI rt), .int (nI lf), .ref pa, .ref da, .int (nI T), .int (nI P), .long R, .long xI, .long xP, .long xW, .long xG])), (pa, .inl (g.2.1, 120, .inl u)), (da, .inl (g.2.1, 121, .inl v))]) 0 0 := by
  intro sz A hAe
  refine Met.ofW (cc := cX0_paymentIn) (maxL := 2) (ret := some .int) (by decide) rfl ?_
  intro p e s m args below meth c s₁ B hml hv
  obtain ⟨rfl, hsz, hP, hK, hD0⟩ := hv
  have hx := B.exec
  have hb := B.bytes
  have hr := B.returns
  have hts := atoms_spec (ws := wsX0_paymentIn) B.pre
  have hown : s.vm.findClass RX0 = some m.cls := findClass_of_methodNamed B.named
  have hlocks := B.notSynchronized
  obtain ⟨hD, hA, hS⟩ := z_in hsz hAe hD0
  have hl := lv_entry ([.ref h, .int (nI k)]) (n := 2) (Nat.le_of_ble_eq_true rfl)
  rw [lg_entry_eq]
  generalize (lg_sl ([.ref h, .int (nI k)]) ++ List.replicate (2 - (lg_sl ([.ref h, .int (nI k)])).length) Slot.unset).toArray = ls at hl ⊢
  have hl : lv_has ls 2 [(0, .ref h), (1, .int (nI k))] := hl
  have hinX0 : ∀ w ∈ wsX00, w ∈ wsX0_paymentIn := by decide +kernel
  refine lv_aload_n hx hb dX0_paymentIn_0 rfl (lv_at hl 0 rfl) ?_
  refine va_get (D := g.1) (ci := 0) (v := .ref pa) (C := RX0) (T := TX0) (N := 11) hx hb hts hinX0 hown hK hP 0 rfl rfl 2 (by decide) (hts (.fieldLink RX0 30 "Usewise$Lease" "payments" "[I") (by decide +kernel)) (fun _ h9 => h9) rfl dX0_paymentIn_1 ?_
  refine lv_aload_n hx hb dX0_paymentIn_4 rfl (lv_at hl 0 rfl) ?_
  refine va_get (D := g.1) (ci := 0) (v := .int (nI P)) (C := RX0) (T := TX0) (N := 11) hx hb hts hinX0 hown hK hP 0 rfl rfl 5 (by decide) (hts (.fieldLink RX0 48 "Usewise$Lease" "past" "I") (by decide +kernel)) (fun _ h9 => h9) rfl dX0_paymentIn_5 ?_
  refine lv_iload_n hx hb dX0_paymentIn_8 rfl (lv_at hl 1 rfl) ?_
  refine z_iadd hx hb dX0_paymentIn_9 ?_
  refine z_iald hx hb hK hP 1 0 rfl rfl (by omega) (by decide) dX0_paymentIn_10 ?_
  exact z_iret hx hb hr hP hK hD hS dX0_paymentIn_11 hlocks (⟨rfl, rfl⟩)

set_option maxHeartbeats 4000000 in
set_option maxRecDepth 100000 in
theorem c_hasRoomFor (l : Launch) (g : zG) (h pa da rt lf T P : Nat) (R xI xP xW xG : Int64) (u v : Nat → Int32) (k : Nat) (hT : T ≤ 120) (hk : k ≤ 36) : zMi l yX0_hasRoomFor wsX0_hasRoomFor ({ frames := 0, cells := 0, slots := 0, locals := 0 } : Room) [.ref h, .int (nI k)] g [(h, .inr (0, [.int (nI rt), .int (nI lf), .ref pa, .ref da, .int (nI T), .int (nI P), .long R, .long xI, .long xP, .long xW, .long xG])), (pa, .inl (g.2.1, 120, .inl u)), (da, .inl (g.2.1, 121, .inl v))] (fun q w => ((T + k ≤ 120 ∧ q = nI 1) ∨ (120 < T + k ∧ q = nI 0)) ∧ w = [(h, .inr (0, [.int (nI rt), .int (nI lf), .ref pa, .ref da, .int (nI T), .int (nI P), .long R, .long xI, .long xP, .long xW, .long xG])), (pa, .inl (g.2.1, 120, .inl u)), (da, .inl (g.2.1, 121, .inl v))]) 0 0 := by
  intro sz A hAe
  refine Met.ofW (cc := cX0_hasRoomFor) (maxL := 2) (ret := some .boolean) (by decide) rfl ?_
  intro p e s m args below meth c s₁ B hml hv
  obtain ⟨rfl, hsz, hP, hK, hD0⟩ := hv
  have hx := B.exec
  have hb := B.bytes
  have hr := B.returns
  have hts := atoms_spec (ws := wsX0_hasRoomFor) B.pre
  have hown : s.vm.findClass RX0 = some m.cls := findClass_of_methodNamed B.named
  have hlocks := B.notSynchronized
  obtain ⟨hD, hA, hS⟩ := z_in hsz hAe hD0
  have hl := lv_entry ([.ref h, .int (nI k)]) (n := 2) (Nat.le_of_ble_eq_true rfl)
  rw [lg_entry_eq]
  generalize (lg_sl ([.ref h, .int (nI k)]) ++ List.replicate (2 - (lg_sl ([.ref h, .int (nI k)])).length) Slot.unset).toArray = ls at hl ⊢
  have hl : lv_has ls 2 [(0, .ref h), (1, .int (nI k))] := hl
  have hinX0 : ∀ w ∈ wsX00, w ∈ wsX0_hasRoomFor := by decide +kernel
  refine lv_aload_n hx hb dX0_hasRoomFor_0 rfl (lv_at hl 0 rfl) ?_
  refine va_get (D := g.1) (ci := 0) (v := .int (nI T)) (C := RX0) (T := TX0) (N := 11) hx hb hts hinX0 hown hK hP 0 rfl rfl 4 (by decide) (hts (.fieldLink RX0 27 "Usewise$Lease" "term" "I") (by decide +kernel)) (fun _ h9 => h9) rfl dX0_hasRoomFor_1 ?_
  refine lv_iload_n hx hb dX0_hasRoomFor_4 rfl (lv_at hl 1 rfl) ?_
  refine z_iadd hx hb dX0_hasRoomFor_5 ?_
  refine lv_bipush (v := nI 120) hx hb dX0_hasRoomFor_6 (by decide) ?_
  refine z_icmp_gt (tgt := 15) hx hb dX0_hasRoomFor_8 (by decide) (by omega) (by omega) (fun hc => ?_) (fun hc => ?_)
  · refine lv_iconst (v := nI 0) hx hb dX0_hasRoomFor_15 (by decide) ?_
    exact z_zret hx hb hr (by decide) hP hK hD hS dX0_hasRoomFor_16 hlocks (⟨Or.inr ⟨hc, rfl⟩, rfl⟩)
  · refine lv_iconst (v := nI 1) hx hb dX0_hasRoomFor_11 (by decide) ?_
    refine lv_goto (tgt := 16) hx hb dX0_hasRoomFor_12 (by decide) ?_
    exact z_zret hx hb hr (by decide) hP hK hD hS dX0_hasRoomFor_16 hlocks (⟨Or.inl ⟨hc, rfl⟩, rfl⟩)

set_option maxHeartbeats 4000000 in
set_option maxRecDepth 100000 in
theorem c_worthBefore (l : Launch) (g : zG) (x r0 : Nat) (hr0 : r0 ≤ 20000) (hx0 : x ≤ 1000000000) : zMl l yX0_worthBefore wsX0_worthBefore ({ frames := 0, cells := 0, slots := 0, locals := 0 } : Room) [.long (lN x), .int (nI r0)] g [] (fun q w => q = lN (zB r0 x) ∧ w = []) 0 0 := by
  intro sz A hAe
  refine Met.ofW (cc := cX0_worthBefore) (maxL := 5) (ret := some .long) (by decide) rfl ?_
  intro p e s m args below meth c s₁ B hml hv
  obtain ⟨rfl, hsz, hP, hK, hD0⟩ := hv
  have hx := B.exec
  have hb := B.bytes
  have hr := B.returns
  have hts := atoms_spec (ws := wsX0_worthBefore) B.pre
  have hown : s.vm.findClass RX0 = some m.cls := findClass_of_methodNamed B.named
  have hlocks := B.notSynchronized
  obtain ⟨hD, hA, hS⟩ := z_in hsz hAe hD0
  have hl := lv_entry ([.long (lN x), .int (nI r0)]) (n := 5) (Nat.le_of_ble_eq_true rfl)
  rw [lg_entry_eq]
  generalize (lg_sl ([.long (lN x), .int (nI r0)]) ++ List.replicate (5 - (lg_sl ([.long (lN x), .int (nI r0)])).length) Slot.unset).toArray = ls at hl ⊢
  have hl : lv_has ls 5 [(0, .long (lN x)), (2, .int (nI r0))] := hl
  refine lv_ldc2 (v := lN 1000000) hx hb hown (hts (.constantLong RX0 55 (1000000)) (by decide +kernel)) dX0_worthBefore_0 ?_
  refine lv_iload_n hx hb dX0_worthBefore_3 rfl (lv_at hl 1 rfl) ?_
  refine z_i2l hx hb dX0_worthBefore_4 (by omega) ?_
  refine z_ladd hx hb dX0_worthBefore_5 ?_
  refine lv_lstore_n (lv' := [(3, .long (lN (1000000 + r0))), (0, .long (lN x)), (2, .int (nI r0))]) hx hb dX0_worthBefore_6 rfl hl (by decide) rfl (fun ls hl => ?_)
  refine lv_lload_n hx hb dX0_worthBefore_7 rfl (lv_at hl 0 rfl) ?_
  refine lv_lconst (v := lN 1) hx hb dX0_worthBefore_8 rfl ?_
  refine z_lif_ge (tgt := 17) (pc2 := 10) hx hb dX0_worthBefore_9 rfl dX0_worthBefore_10 (by decide) (fun hc => ?_) (fun hc => ?_)
  · refine lv_lload_n hx hb dX0_worthBefore_17 rfl (lv_at hl 1 rfl) ?_
    refine lv_ldc2 (v := lN 1000000) hx hb hown (hts (.constantLong RX0 55 (1000000)) (by decide +kernel)) dX0_worthBefore_18 ?_
    refine z_lmul hx hb dX0_worthBefore_21 ?_
    refine lv_lload_n hx hb dX0_worthBefore_22 rfl (lv_at hl 0 rfl) ?_
    refine z_ladd hx hb dX0_worthBefore_23 ?_
    refine lv_lconst (v := lN 1) hx hb dX0_worthBefore_24 rfl ?_
    refine z_lsub hx hb dX0_worthBefore_25 (by omega) ?_
    refine lv_lload_n hx hb dX0_worthBefore_26 rfl (lv_at hl 0 rfl) ?_
    refine z_ldiv hx hb dX0_worthBefore_27 (by omega) (by omega) (by omega) ?_
    exact z_lret hx hb hr hP hK hD hS dX0_worthBefore_28 hlocks (⟨rfl, rfl⟩)
  · exact absurd hc (by rw [pk_lLT (by omega) (by decide)]; omega)

set_option maxHeartbeats 4000000 in
set_option maxRecDepth 100000 in
theorem c_percentOf (l : Launch) (g : zG) (x a0 : Nat) (ha0 : a0 ≤ 200) (hx0 : x ≤ 1000000000) : zMl l yX0_percentOf wsX0_percentOf ({ frames := 0, cells := 0, slots := 0, locals := 0 } : Room) [.long (lN x), .int (nI a0)] g [] (fun q w => q = lN (x * a0 / 100) ∧ w = []) 0 0 := by
  intro sz A hAe
  refine Met.ofW (cc := cX0_percentOf) (maxL := 3) (ret := some .long) (by decide) rfl ?_
  intro p e s m args below meth c s₁ B hml hv
  obtain ⟨rfl, hsz, hP, hK, hD0⟩ := hv
  have hx := B.exec
  have hb := B.bytes
  have hr := B.returns
  have hts := atoms_spec (ws := wsX0_percentOf) B.pre
  have hown : s.vm.findClass RX0 = some m.cls := findClass_of_methodNamed B.named
  have hlocks := B.notSynchronized
  obtain ⟨hD, hA, hS⟩ := z_in hsz hAe hD0
  have hl := lv_entry ([.long (lN x), .int (nI a0)]) (n := 3) (Nat.le_of_ble_eq_true rfl)
  rw [lg_entry_eq]
  generalize (lg_sl ([.long (lN x), .int (nI a0)]) ++ List.replicate (3 - (lg_sl ([.long (lN x), .int (nI a0)])).length) Slot.unset).toArray = ls at hl ⊢
  have hl : lv_has ls 3 [(0, .long (lN x)), (2, .int (nI a0))] := hl
  refine lv_lload_n hx hb dX0_percentOf_0 rfl (lv_at hl 0 rfl) ?_
  refine lv_iload_n hx hb dX0_percentOf_1 rfl (lv_at hl 1 rfl) ?_
  refine z_i2l hx hb dX0_percentOf_2 (by omega) ?_
  refine z_lmul hx hb dX0_percentOf_3 ?_
  refine lv_ldc2 (v := lN 100) hx hb hown (hts (.constantLong RX0 89 (100)) (by decide +kernel)) dX0_percentOf_4 ?_
  have hxa : x * a0 ≤ 1000000000 * 200 := Nat.mul_le_mul hx0 ha0
  refine z_ldiv hx hb dX0_percentOf_7 (by omega) (by omega) (by omega) ?_
  exact z_lret hx hb hr hP hK hD hS dX0_percentOf_8 hlocks (⟨rfl, rfl⟩)

set_option maxHeartbeats 4000000 in
set_option maxRecDepth 100000 in
theorem c_monthsToWriteOver (l : Launch) (g : zG) (h pa da rt lf T P : Nat) (R xI xP xW xG : Int64) (u v : Nat → Int32) (hPT : P ≤ T) (hT : T ≤ 120) (hlf : lf ≤ 120) : zMi l yX0_monthsToWriteOver wsX0_monthsToWriteOver ({ frames := 1, cells := 0, slots := 0, locals := 20 } : Room) [.ref h] g [(h, .inr (0, [.int (nI rt), .int (nI lf), .ref pa, .ref da, .int (nI T), .int (nI P), .long R, .long xI, .long xP, .long xW, .long xG])), (pa, .inl (g.2.1, 120, .inl u)), (da, .inl (g.2.1, 121, .inl v))] (fun q w => q = nI (zMW lf T P) ∧ w = [(h, .inr (0, [.int (nI rt), .int (nI lf), .ref pa, .ref da, .int (nI T), .int (nI P), .long R, .long xI, .long xP, .long xW, .long xG])), (pa, .inl (g.2.1, 120, .inl u)), (da, .inl (g.2.1, 121, .inl v))]) 0 0 := by
  intro sz A hAe
  refine Met.ofW (cc := cX0_monthsToWriteOver) (maxL := 1) (ret := some .int) (by decide) rfl ?_
  intro p e s m args below meth c s₁ B hml hv
  obtain ⟨rfl, hsz, hP, hK, hD0⟩ := hv
  have hx := B.exec
  have hb := B.bytes
  have hr := B.returns
  have hts := atoms_spec (ws := wsX0_monthsToWriteOver) B.pre
  have hown : s.vm.findClass RX0 = some m.cls := findClass_of_methodNamed B.named
  have hlocks := B.notSynchronized
  obtain ⟨hD, hA, hS⟩ := z_in hsz hAe hD0
  have hl := lv_entry ([.ref h]) (n := 1) (Nat.le_of_ble_eq_true rfl)
  rw [lg_entry_eq]
  generalize (lg_sl ([.ref h]) ++ List.replicate (1 - (lg_sl ([.ref h])).length) Slot.unset).toArray = ls at hl ⊢
  have hl : lv_has ls 1 [(0, .ref h)] := hl
  have hinX0 : ∀ w ∈ wsX00, w ∈ wsX0_monthsToWriteOver := by decide +kernel
  refine lv_iconst (v := nI 1) hx hb dX0_monthsToWriteOver_0 (by decide) ?_
  refine lv_aload_n hx hb dX0_monthsToWriteOver_1 rfl (lv_at hl 0 rfl) ?_
  refine va_get (D := g.1) (ci := 0) (v := .int (nI T)) (C := RX0) (T := TX0) (N := 11) hx hb hts hinX0 hown hK hP 0 rfl rfl 4 (by decide) (hts (.fieldLink RX0 27 "Usewise$Lease" "term" "I") (by decide +kernel)) (fun _ h9 => h9) rfl dX0_monthsToWriteOver_2 ?_
  refine lv_aload_n hx hb dX0_monthsToWriteOver_5 rfl (lv_at hl 0 rfl) ?_
  refine va_get (D := g.1) (ci := 0) (v := .int (nI P)) (C := RX0) (T := TX0) (N := 11) hx hb hts hinX0 hown hK hP 0 rfl rfl 5 (by decide) (hts (.fieldLink RX0 48 "Usewise$Lease" "past" "I") (by decide +kernel)) (fun _ h9 => h9) rfl dX0_monthsToWriteOver_6 ?_
  refine z_isub hx hb dX0_monthsToWriteOver_9 (by omega) ?_
  refine lv_aload_n hx hb dX0_monthsToWriteOver_10 rfl (lv_at hl 0 rfl) ?_
  refine va_get (D := g.1) (ci := 0) (v := .int (nI lf)) (C := RX0) (T := TX0) (N := 11) hx hb hts hinX0 hown hK hP 0 rfl rfl 1 (by decide) (hts (.fieldLink RX0 15 "Usewise$Lease" "life" "I") (by decide +kernel)) (fun _ h9 => h9) rfl dX0_monthsToWriteOver_11 ?_
  refine lv_aload_n hx hb dX0_monthsToWriteOver_14 rfl (lv_at hl 0 rfl) ?_
  refine va_get (D := g.1) (ci := 0) (v := .int (nI P)) (C := RX0) (T := TX0) (N := 11) hx hb hts hinX0 hown hK hP 0 rfl rfl 5 (by decide) (hts (.fieldLink RX0 48 "Usewise$Lease" "past" "I") (by decide +kernel)) (fun _ h9 => h9) rfl dX0_monthsToWriteOver_15 ?_
  refine lv_isub hx hb dX0_monthsToWriteOver_18 ?_
  refine va_mmin hx hb (hml.trans hl.1.symm) hown (hts (.methodLink RX0 18 Lib.Math.min.name) (by decide +kernel)) (hts (.static Lib.Math.min.name) (by decide +kernel)) (hts (.initialized "java/lang/Math") (by decide +kernel)) (hts (.code Lib.Math.min.name Lib.Math.min.code 2 (some .int)) (by decide +kernel)) (Nat.le_of_ble_eq_true rfl) (Nat.le_of_ble_eq_true rfl) (Nat.le_of_ble_eq_true rfl) (Nat.le_of_ble_eq_true rfl) dX0_monthsToWriteOver_19 ?_
  refine va_mmax hx hb (hml.trans hl.1.symm) hown (hts (.methodLink RX0 24 Lib.Math.max.name) (by decide +kernel)) (hts (.static Lib.Math.max.name) (by decide +kernel)) (hts (.initialized "java/lang/Math") (by decide +kernel)) (hts (.code Lib.Math.max.name Lib.Math.max.code 2 (some .int)) (by decide +kernel)) (Nat.le_of_ble_eq_true rfl) (Nat.le_of_ble_eq_true rfl) (Nat.le_of_ble_eq_true rfl) (Nat.le_of_ble_eq_true rfl) dX0_monthsToWriteOver_22 ?_
  exact z_iret hx hb hr hP hK hD hS dX0_monthsToWriteOver_25 hlocks (⟨z_mwo hPT hT hlf, rfl⟩)
end
section
/-! the class of a lease: loops -/
theorem z_dlt {k P : Nat} (hk : k ≤ 120) (hP : P ≤ 120) : nI k + (-1) < nI P ↔ k ≤ P := by
  rw [← z_m1, Int32.lt_iff_toInt_lt, pk_sub_toInt (by omega) (by omega), nI_toInt (by omega)]
  omega
theorem z_wb {r P T j : Nat} {p : Nat → Nat} (hT : T ≤ 120) (hp : ∀ j, P ≤ j → j < T → p j ≤ 1000000) (hj : P ≤ j) : zWr r p T (T - j) ≤ 120000000 := by
  have := zWr_le (r := r) (M := 1000000) (p := p) (T := T) (T - j) (fun i a b => hp i (by omega) b) (by omega)
  omega
set_option maxHeartbeats 4000000 in
set_option maxRecDepth 100000 in
theorem c_worthAt (l : Launch) (g : zG) (h pa da rt lf T P : Nat) (R xI xP xW xG : Int64) (u v : Nat → Int32) (py : Nat → Nat) (rr : Nat) (hT : T ≤ 120) (hPT : P ≤ T) (hp : ∀ j, P ≤ j → j < T → py j ≤ 1000000) (hu : ∀ j, P ≤ j → j < T → u j = nI (py j)) (hrr : rr ≤ 20000) : zMl l yX0_worthAt wsX0_worthAt ({ frames := 1, cells := 0, slots := 0, locals := 24 } : Room) [.ref h, .int (nI rr)] g [(h, .inr (0, [.int (nI rt), .int (nI lf), .ref pa, .ref da, .int (nI T), .int (nI P), .long R, .long xI, .long xP, .long xW, .long xG])), (pa, .inl (g.2.1, 120, .inl u)), (da, .inl (g.2.1, 121, .inl v))] (fun q w => q = lN (zWr rr py T (T - P)) ∧ w = [(h, .inr (0, [.int (nI rt), .int (nI lf), .ref pa, .ref da, .int (nI T), .int (nI P), .long R, .long xI, .long xP, .long xW, .long xG])), (pa, .inl (g.2.1, 120, .inl u)), (da, .inl (g.2.1, 121, .inl v))]) 0 0 := by
  intro sz A hAe
  refine Met.ofW (cc := cX0_worthAt) (maxL := 5) (ret := some .long) (by decide) rfl ?_
  intro p e s m args below meth c s₁ B hml hv
  obtain ⟨rfl, hsz, hP, hK, hD0⟩ := hv
  have hx := B.exec
  have hb := B.bytes
  have hr := B.returns
  have hts := atoms_spec (ws := wsX0_worthAt) B.pre
  have hown : s.vm.findClass RX0 = some m.cls := findClass_of_methodNamed B.named
  have hlocks := B.notSynchronized
  obtain ⟨hD, hA, hS⟩ := z_in hsz hAe hD0
  have hl := lv_entry ([.ref h, .int (nI rr)]) (n := 5) (Nat.le_of_ble_eq_true rfl)
  rw [lg_entry_eq]
  generalize (lg_sl ([.ref h, .int (nI rr)]) ++ List.replicate (5 - (lg_sl ([.ref h, .int (nI rr)])).length) Slot.unset).toArray = ls at hl ⊢
  have hl : lv_has ls 5 [(0, .ref h), (1, .int (nI rr))] := hl
  have hinX0 : ∀ w ∈ wsX00, w ∈ wsX0_worthAt := by decide +kernel
  refine lv_lconst (v := lN 0) hx hb dX0_worthAt_0 rfl ?_
  refine zl (y := lN (zWr rr py T (T - T))) (by rw [Nat.sub_self]; rfl) ?_
  refine lv_lstore_n (lv' := [(2, .long (lN (zWr rr py T (T - T)))), (0, .ref h), (1, .int (nI rr))]) hx hb dX0_worthAt_1 rfl hl (by decide) rfl (fun ls hl => ?_)
  refine lv_aload_n hx hb dX0_worthAt_2 rfl (lv_at hl 1 rfl) ?_
  refine va_get (D := g.1) (ci := 0) (v := .int (nI T)) (C := RX0) (T := TX0) (N := 11) hx hb hts hinX0 hown hK hP 0 rfl rfl 4 (by decide) (hts (.fieldLink RX0 27 "Usewise$Lease" "term" "I") (by decide +kernel)) (fun _ h9 => h9) rfl dX0_worthAt_3 ?_
  refine lv_iconst (v := nI 1) hx hb dX0_worthAt_6 (by decide) ?_
  refine lv_isub hx hb dX0_worthAt_7 ?_
  refine zi (y := nI T + (-1)) (z_m1 T) ?_
  refine lv_istore (lv' := [(4, .int (nI T + (-1))), (2, .long (lN (zWr rr py T (T - T)))), (0, .ref h), (1, .int (nI rr))]) hx hb dX0_worthAt_8 hl (by decide) rfl (fun ls hl => ?_)
  have loop : ∀ (n : Nat) (k : Nat) (H : Heap) (locs : List Loc) (ls : Array Slot), k < n → P ≤ k → k ≤ T → va_P g.1 vwCl [(h, .inr (0, [.int (nI rt), .int (nI lf), .ref pa, .ref da, .int (nI T), .int (nI P), .long R, .long xI, .long xP, .long xW, .long xG])), (pa, .inl (g.2.1, 120, .inl u)), (da, .inl (g.2.1, 121, .inl v))] H → va_D A [(h, .inr (0, [.int (nI rt), .int (nI lf), .ref pa, .ref da, .int (nI T), .int (nI P), .long R, .long xI, .long xP, .long xW, .long xG])), (pa, .inl (g.2.1, 120, .inl u)), (da, .inl (g.2.1, 121, .inl v))] → va_S A s.heap H locs → lv_has ls 5 [(2, .long (lN (zWr rr py T (T - k)))), (4, .int (nI k + (-1))), (0, .ref h), (1, .int (nI rr))] → W p l e (headSpec wsX0_worthAt ({ frames := 1, cells := 0, slots := 0, locals := 24 } : Room)).room s m ([.ref h, .int (nI rr)] : List Value).toArray below meth c H locs 0 0 (MQ below (va_Ql (fun q w => q = lN (zWr rr py T (T - P)) ∧ w = [(h, .inr (0, [.int (nI rt), .int (nI lf), .ref pa, .ref da, .int (nI T), .int (nI P), .long R, .long xI, .long xP, .long xW, .long xG])), (pa, .inl (g.2.1, 120, .inl u)), (da, .inl (g.2.1, 121, .inl v))]) (zOut g A) A) ([.ref h, .int (nI rr)] : List Value).toArray s 0 0 A) (F0 m 10 ls []) := by
    intro n
    induction n with
    | zero =>
      intro k H locs ls hn hk1 hk2 hP hD hS hl
      omega
    | succ n ih =>
      intro k H locs ls hn hk1 hk2 hP hD hS hl
      refine lv_iload hx hb dX0_worthAt_10 (lv_at hl 1 rfl) ?_
      refine lv_aload_n hx hb dX0_worthAt_12 rfl (lv_at hl 2 rfl) ?_
      refine va_get (D := g.1) (ci := 0) (v := .int (nI P)) (C := RX0) (T := TX0) (N := 11) hx hb hts hinX0 hown hK hP 0 rfl rfl 5 (by decide) (hts (.fieldLink RX0 48 "Usewise$Lease" "past" "I") (by decide +kernel)) (fun _ h9 => h9) rfl dX0_worthAt_13 ?_
      refine lv_icmp_lt (tgt := 40) hx hb dX0_worthAt_16 (by decide) (fun hc => ?_) (fun hc => ?_)
      · have hk : k = P := by have := (z_dlt (by omega) (by omega)).mp hc; omega
        refine lv_lload_n hx hb dX0_worthAt_40 rfl (lv_at hl 0 rfl) ?_
        refine zl (y := lN (zWr rr py T (T - P))) (by rw [hk]) ?_
        exact z_lret hx hb hr hP hK hD hS dX0_worthAt_41 hlocks (⟨rfl, rfl⟩)
      · have hk : P < k := by have := mt (z_dlt (by omega) (by omega)).mpr hc; omega
        obtain ⟨j, rfl⟩ : ∃ j, k = j + 1 := ⟨k - 1, by omega⟩
        have hpj := hp j (by omega) (by omega)
        have hwj := z_wb (r := rr) (j := j + 1) hT hp (by omega)
        refine lv_lload_n hx hb dX0_worthAt_19 rfl (lv_at hl 0 rfl) ?_
        refine lv_aload_n hx hb dX0_worthAt_20 rfl (lv_at hl 2 rfl) ?_
        refine va_get (D := g.1) (ci := 0) (v := .ref pa) (C := RX0) (T := TX0) (N := 11) hx hb hts hinX0 hown hK hP 0 rfl rfl 2 (by decide) (hts (.fieldLink RX0 30 "Usewise$Lease" "payments" "[I") (by decide +kernel)) (fun _ h9 => h9) rfl dX0_worthAt_21 ?_
        refine lv_iload hx hb dX0_worthAt_24 (lv_at hl 1 rfl) ?_
        refine zi (y := nI j) (pk_m1 j) ?_
        refine z_iald hx hb hK hP 1 0 rfl rfl (by omega) (by decide) dX0_worthAt_26 ?_
        refine zi (y := nI (py j)) (hu j (by omega) (by omega)) ?_
        refine z_i2l hx hb dX0_worthAt_27 (by omega) ?_
        refine z_ladd hx hb dX0_worthAt_28 ?_
        refine lv_iload_n hx hb dX0_worthAt_29 rfl (lv_at hl 3 rfl) ?_
        refine z_al (wa := [(h, .inr (0, [.int (nI rt), .int (nI lf), .ref pa, .ref da, .int (nI T), .int (nI P), .long R, .long xI, .long xP, .long xW, .long xG])), (pa, .inl (g.2.1, 120, .inl u)), (da, .inl (g.2.1, 121, .inl v))]) (wc := []) (wb := []) (va_runS (As := [.long (lN (zWr rr py T (T - (j + 1)) + (py j))), .int (nI rr)]) (rest := []) ⟨hx, hb, hml, hown, hts⟩ (c_worthBefore l g (zWr rr py T (T - (j + 1)) + py j) rr hrr (by omega) H.size _ rfl) (va_cwS 2 hts gX0_worthAt_X0_worthBefore rfl rfl rfl (by decide +kernel) ⟨Nat.le_of_ble_eq_true rfl, Nat.le_of_ble_eq_true rfl⟩) (zpreS (wa := [(h, .inr (0, [.int (nI rt), .int (nI lf), .ref pa, .ref da, .int (nI T), .int (nI P), .long R, .long xI, .long xP, .long xW, .long xG])), (pa, .inl (g.2.1, 120, .inl u)), (da, .inl (g.2.1, 121, .inl v))]) (wc := []) (wb := []) hK hP hD) rfl rfl hl.1 rfl (lv_room (Nat.le_of_ble_eq_true rfl)) dX0_worthAt_30 ⟨Nat.le_of_ble_eq_true rfl, Nat.le_of_ble_eq_true rfl⟩) hP hD hS hA (fun r_1 w1 H locs hq hP hD hS => ?_)
        obtain ⟨rfl, rfl⟩ := hq
        have hP : va_P g.1 vwCl [(h, .inr (0, [.int (nI rt), .int (nI lf), .ref pa, .ref da, .int (nI T), .int (nI P), .long R, .long xI, .long xP, .long xW, .long xG])), (pa, .inl (g.2.1, 120, .inl u)), (da, .inl (g.2.1, 121, .inl v))] H := hP
        have hD : va_D A [(h, .inr (0, [.int (nI rt), .int (nI lf), .ref pa, .ref da, .int (nI T), .int (nI P), .long R, .long xI, .long xP, .long xW, .long xG])), (pa, .inl (g.2.1, 120, .inl u)), (da, .inl (g.2.1, 121, .inl v))] := hD
        refine zl (y := lN (zWr rr py T (T - j))) (by rw [zWr_at rr py (by omega : j < T)]) ?_
        refine lv_lstore_n (lv' := [(2, .long (lN (zWr rr py T (T - j)))), (4, .int (nI (j + 1) + (-1))), (0, .ref h), (1, .int (nI rr))]) hx hb dX0_worthAt_33 rfl hl (by decide) rfl (fun ls hl => ?_)
        refine lv_iinc (v := nI j + (-1)) (lv' := [(4, .int (nI j + (-1))), (2, .long (lN (zWr rr py T (T - j)))), (0, .ref h), (1, .int (nI rr))]) hx hb dX0_worthAt_34 hl (k := 1) rfl (by rw [pk_m1 j]; rfl) (by decide) rfl (fun ls hl => ?_)
        refine lv_goto (tgt := 10) hx hb dX0_worthAt_37 (by decide) ?_
        exact ih j H _ _ (by omega) (by omega) (by omega) hP hD hS (lv_sub hl [1, 0, 2, 3] rfl)
  exact loop (T + 1) T _ _ _ (by omega) (by omega) (by omega) hP hD hS (lv_sub hl [1, 0, 2, 3] rfl)
end
section
/-! the class of a lease: debts laid, payments scaled -/
set_option maxHeartbeats 4000000 in
set_option maxRecDepth 100000 in
theorem c_layDebts (l : Launch) (g : zG) (h pa da rt lf T P : Nat) (R xI xP xW xG : Int64) (u v : Nat → Int32) (py : Nat → Nat) (hT : T ≤ 120) (hPT : P ≤ T) (hp : ∀ j, P ≤ j → j < T → py j ≤ 1000000) (hu : ∀ j, P ≤ j → j < T → u j = nI (py j)) (hrt : rt ≤ 20000) : zMv l yX0_layDebts wsX0_layDebts ({ frames := 1, cells := 0, slots := 0, locals := 24 } : Room) [.ref h] g [(h, .inr (0, [.int (nI rt), .int (nI lf), .ref pa, .ref da, .int (nI T), .int (nI P), .long R, .long xI, .long xP, .long xW, .long xG])), (pa, .inl (g.2.1, 120, .inl u)), (da, .inl (g.2.1, 121, .inl v))] (fun w => ∃ v' : Nat → Int32, w = [(h, .inr (0, [.int (nI rt), .int (nI lf), .ref pa, .ref da, .int (nI T), .int (nI P), .long R, .long xI, .long xP, .long xW, .long xG])), (pa, .inl (g.2.1, 120, .inl u)), (da, .inl (g.2.1, 121, .inl v'))] ∧ ∀ j, P ≤ j → j ≤ T → v' j = nI (zWr rt py T (T - j))) 0 0 := by
  intro sz A hAe
  refine Met.ofW (cc := cX0_layDebts) (maxL := 2) (ret := none) (by decide) rfl ?_
  intro p e s m args below meth c s₁ B hml hv
  obtain ⟨rfl, hsz, hP, hK, hD0⟩ := hv
  have hx := B.exec
  have hb := B.bytes
  have hr := B.returns
  have hts := atoms_spec (ws := wsX0_layDebts) B.pre
  have hown : s.vm.findClass RX0 = some m.cls := findClass_of_methodNamed B.named
  have hlocks := B.notSynchronized
  obtain ⟨hD, hA, hS⟩ := z_in hsz hAe hD0
  have hl := lv_entry ([.ref h]) (n := 2) (Nat.le_of_ble_eq_true rfl)
  rw [lg_entry_eq]
  generalize (lg_sl ([.ref h]) ++ List.replicate (2 - (lg_sl ([.ref h])).length) Slot.unset).toArray = ls at hl ⊢
  have hl : lv_has ls 2 [(0, .ref h)] := hl
  have hinX0 : ∀ w ∈ wsX00, w ∈ wsX0_layDebts := by decide +kernel
  refine lv_aload_n hx hb dX0_layDebts_0 rfl (lv_at hl 0 rfl) ?_
  refine va_get (D := g.1) (ci := 0) (v := .ref da) (C := RX0) (T := TX0) (N := 11) hx hb hts hinX0 hown hK hP 0 rfl rfl 3 (by decide) (hts (.fieldLink RX0 34 "Usewise$Lease" "debts" "[I") (by decide +kernel)) (fun _ h9 => h9) rfl dX0_layDebts_1 ?_
  refine lv_aload_n hx hb dX0_layDebts_4 rfl (lv_at hl 0 rfl) ?_
  refine va_get (D := g.1) (ci := 0) (v := .int (nI T)) (C := RX0) (T := TX0) (N := 11) hx hb hts hinX0 hown hK hP 0 rfl rfl 4 (by decide) (hts (.fieldLink RX0 27 "Usewise$Lease" "term" "I") (by decide +kernel)) (fun _ h9 => h9) rfl dX0_layDebts_5 ?_
  refine lv_iconst (v := nI 0) hx hb dX0_layDebts_8 (by decide) ?_
  refine z_iast hx hb hK hP hD hS 2 0 rfl rfl (by omega) (by decide) dX0_layDebts_9 (fun H locs hP hD hS => ?_)
  have hP : va_P g.1 vwCl [(h, .inr (0, [.int (nI rt), .int (nI lf), .ref pa, .ref da, .int (nI T), .int (nI P), .long R, .long xI, .long xP, .long xW, .long xG])), (pa, .inl (g.2.1, 120, .inl u)), (da, .inl (g.2.1, 121, .inl (upd v T (nI 0))))] H := hP
  have hD : va_D A [(h, .inr (0, [.int (nI rt), .int (nI lf), .ref pa, .ref da, .int (nI T), .int (nI P), .long R, .long xI, .long xP, .long xW, .long xG])), (pa, .inl (g.2.1, 120, .inl u)), (da, .inl (g.2.1, 121, .inl (upd v T (nI 0))))] := hD
  refine lv_aload_n hx hb dX0_layDebts_10 rfl (lv_at hl 0 rfl) ?_
  refine va_get (D := g.1) (ci := 0) (v := .int (nI T)) (C := RX0) (T := TX0) (N := 11) hx hb hts hinX0 hown hK hP 0 rfl rfl 4 (by decide) (hts (.fieldLink RX0 27 "Usewise$Lease" "term" "I") (by decide +kernel)) (fun _ h9 => h9) rfl dX0_layDebts_11 ?_
  refine lv_iconst (v := nI 1) hx hb dX0_layDebts_14 (by decide) ?_
  refine lv_isub hx hb dX0_layDebts_15 ?_
  refine zi (y := nI T + (-1)) (z_m1 T) ?_
  refine lv_istore_n (lv' := [(1, .int (nI T + (-1))), (0, .ref h)]) hx hb dX0_layDebts_16 rfl hl (by decide) rfl (fun ls hl => ?_)
  have loop : ∀ (n : Nat) (k : Nat) (v2 : Nat → Int32) (H : Heap) (locs : List Loc) (ls : Array Slot), k < n → P ≤ k → k ≤ T → (∀ j, k ≤ j → j ≤ T → v2 j = nI (zWr rt py T (T - j))) → va_P g.1 vwCl [(h, .inr (0, [.int (nI rt), .int (nI lf), .ref pa, .ref da, .int (nI T), .int (nI P), .long R, .long xI, .long xP, .long xW, .long xG])), (pa, .inl (g.2.1, 120, .inl u)), (da, .inl (g.2.1, 121, .inl v2))] H → va_D A [(h, .inr (0, [.int (nI rt), .int (nI lf), .ref pa, .ref da, .int (nI T), .int (nI P), .long R, .long xI, .long xP, .long xW, .long xG])), (pa, .inl (g.2.1, 120, .inl u)), (da, .inl (g.2.1, 121, .inl v2))] → va_S A s.heap H locs → lv_has ls 2 [(1, .int (nI k + (-1))), (0, .ref h)] → W p l e (headSpec wsX0_layDebts ({ frames := 1, cells := 0, slots := 0, locals := 24 } : Room)).room s m ([.ref h] : List Value).toArray below meth c H locs 0 0 (MQ below (va_Qv (fun w => ∃ v' : Nat → Int32, w = [(h, .inr (0, [.int (nI rt), .int (nI lf), .ref pa, .ref da, .int (nI T), .int (nI P), .long R, .long xI, .long xP, .long xW, .long xG])), (pa, .inl (g.2.1, 120, .inl u)), (da, .inl (g.2.1, 121, .inl v'))] ∧ ∀ j, P ≤ j → j ≤ T → v' j = nI (zWr rt py T (T - j))) (zOut g A) A) ([.ref h] : List Value).toArray s 0 0 A) (F0 m 17 ls []) := by
    intro n
    induction n with
    | zero =>
      intro k v2 H locs ls hn hk1 hk2 hv hP hD hS hl
      omega
    | succ n ih =>
      intro k v2 H locs ls hn hk1 hk2 hv hP hD hS hl
      refine lv_iload_n hx hb dX0_layDebts_17 rfl (lv_at hl 0 rfl) ?_
      refine lv_aload_n hx hb dX0_layDebts_18 rfl (lv_at hl 1 rfl) ?_
      refine va_get (D := g.1) (ci := 0) (v := .int (nI P)) (C := RX0) (T := TX0) (N := 11) hx hb hts hinX0 hown hK hP 0 rfl rfl 5 (by decide) (hts (.fieldLink RX0 48 "Usewise$Lease" "past" "I") (by decide +kernel)) (fun _ h9 => h9) rfl dX0_layDebts_19 ?_
      refine lv_icmp_lt (tgt := 62) hx hb dX0_layDebts_22 (by decide) (fun hc => ?_) (fun hc => ?_)
      · have hk : k = P := by have := (z_dlt (by omega) (by omega)).mp hc; omega
        subst hk
        exact z_vret hx hb hr hP hK hD hS dX0_layDebts_62 hlocks (⟨v2, rfl, hv⟩)
      · have hk : P < k := by have := mt (z_dlt (by omega) (by omega)).mpr hc; omega
        obtain ⟨j, rfl⟩ : ∃ j, k = j + 1 := ⟨k - 1, by omega⟩
        have hpj := hp j (by omega) (by omega)
        have hwj := z_wb (r := rt) (j := j + 1) hT hp (by omega)
        refine lv_aload_n hx hb dX0_layDebts_25 rfl (lv_at hl 1 rfl) ?_
        refine va_get (D := g.1) (ci := 0) (v := .ref da) (C := RX0) (T := TX0) (N := 11) hx hb hts hinX0 hown hK hP 0 rfl rfl 3 (by decide) (hts (.fieldLink RX0 34 "Usewise$Lease" "debts" "[I") (by decide +kernel)) (fun _ h9 => h9) rfl dX0_layDebts_26 ?_
        refine lv_iload_n hx hb dX0_layDebts_29 rfl (lv_at hl 0 rfl) ?_
        refine zi (y := nI j) (pk_m1 j) ?_
        refine lv_aload_n hx hb dX0_layDebts_30 rfl (lv_at hl 1 rfl) ?_
        refine va_get (D := g.1) (ci := 0) (v := .ref da) (C := RX0) (T := TX0) (N := 11) hx hb hts hinX0 hown hK hP 0 rfl rfl 3 (by decide) (hts (.fieldLink RX0 34 "Usewise$Lease" "debts" "[I") (by decide +kernel)) (fun _ h9 => h9) rfl dX0_layDebts_31 ?_
        refine lv_iload_n hx hb dX0_layDebts_34 rfl (lv_at hl 0 rfl) ?_
        refine zi (y := nI j) (pk_m1 j) ?_
        refine lv_iconst (v := nI 1) hx hb dX0_layDebts_35 (by decide) ?_
        refine z_iadd hx hb dX0_layDebts_36 ?_
        refine z_iald hx hb hK hP 2 0 rfl rfl (by omega) (by decide) dX0_layDebts_37 ?_
        refine zi (y := nI (zWr rt py T (T - (j + 1)))) (hv (j + 1) (by omega) (by omega)) ?_
        refine z_i2l hx hb dX0_layDebts_38 (by omega) ?_
        refine lv_aload_n hx hb dX0_layDebts_39 rfl (lv_at hl 1 rfl) ?_
        refine va_get (D := g.1) (ci := 0) (v := .ref pa) (C := RX0) (T := TX0) (N := 11) hx hb hts hinX0 hown hK hP 0 rfl rfl 2 (by decide) (hts (.fieldLink RX0 30 "Usewise$Lease" "payments" "[I") (by decide +kernel)) (fun _ h9 => h9) rfl dX0_layDebts_40 ?_
        refine lv_iload_n hx hb dX0_layDebts_43 rfl (lv_at hl 0 rfl) ?_
        refine zi (y := nI j) (pk_m1 j) ?_
        refine z_iald hx hb hK hP 1 0 rfl rfl (by omega) (by decide) dX0_layDebts_44 ?_
        refine zi (y := nI (py j)) (hu j (by omega) (by omega)) ?_
        refine z_i2l hx hb dX0_layDebts_45 (by omega) ?_
        refine z_ladd hx hb dX0_layDebts_46 ?_
        refine lv_aload_n hx hb dX0_layDebts_47 rfl (lv_at hl 1 rfl) ?_
        refine va_get (D := g.1) (ci := 0) (v := .int (nI rt)) (C := RX0) (T := TX0) (N := 11) hx hb hts hinX0 hown hK hP 0 rfl rfl 0 (by decide) (hts (.fieldLink RX0 9 "Usewise$Lease" "rate" "I") (by decide +kernel)) (fun _ h9 => h9) rfl dX0_layDebts_48 ?_
        refine z_al (wa := [(h, .inr (0, [.int (nI rt), .int (nI lf), .ref pa, .ref da, .int (nI T), .int (nI P), .long R, .long xI, .long xP, .long xW, .long xG])), (pa, .inl (g.2.1, 120, .inl u)), (da, .inl (g.2.1, 121, .inl v2))]) (wc := []) (wb := []) (va_runS (As := [.long (lN (zWr rt py T (T - (j + 1)) + (py j))), .int (nI rt)]) (rest := [.int (nI j), .ref da]) ⟨hx, hb, hml, hown, hts⟩ (c_worthBefore l g (zWr rt py T (T - (j + 1)) + py j) rt hrt (by omega) H.size _ rfl) (va_cwS 2 hts gX0_layDebts_X0_worthBefore rfl rfl rfl (by decide +kernel) ⟨Nat.le_of_ble_eq_true rfl, Nat.le_of_ble_eq_true rfl⟩) (zpreS (wa := [(h, .inr (0, [.int (nI rt), .int (nI lf), .ref pa, .ref da, .int (nI T), .int (nI P), .long R, .long xI, .long xP, .long xW, .long xG])), (pa, .inl (g.2.1, 120, .inl u)), (da, .inl (g.2.1, 121, .inl v2))]) (wc := []) (wb := []) hK hP hD) rfl rfl hl.1 rfl (lv_room (Nat.le_of_ble_eq_true rfl)) dX0_layDebts_51 ⟨Nat.le_of_ble_eq_true rfl, Nat.le_of_ble_eq_true rfl⟩) hP hD hS hA (fun r_1 w1 H locs hq hP hD hS => ?_)
        obtain ⟨rfl, rfl⟩ := hq
        have hP : va_P g.1 vwCl [(h, .inr (0, [.int (nI rt), .int (nI lf), .ref pa, .ref da, .int (nI T), .int (nI P), .long R, .long xI, .long xP, .long xW, .long xG])), (pa, .inl (g.2.1, 120, .inl u)), (da, .inl (g.2.1, 121, .inl v2))] H := hP
        have hD : va_D A [(h, .inr (0, [.int (nI rt), .int (nI lf), .ref pa, .ref da, .int (nI T), .int (nI P), .long R, .long xI, .long xP, .long xW, .long xG])), (pa, .inl (g.2.1, 120, .inl u)), (da, .inl (g.2.1, 121, .inl v2))] := hD
        refine zl (y := lN (zWr rt py T (T - j))) (by rw [zWr_at rt py (by omega : j < T)]) ?_
        refine z_l2i hx hb dX0_layDebts_54 ?_
        refine z_iast hx hb hK hP hD hS 2 0 rfl rfl (by omega) (by decide) dX0_layDebts_55 (fun H locs hP hD hS => ?_)
        have hP : va_P g.1 vwCl [(h, .inr (0, [.int (nI rt), .int (nI lf), .ref pa, .ref da, .int (nI T), .int (nI P), .long R, .long xI, .long xP, .long xW, .long xG])), (pa, .inl (g.2.1, 120, .inl u)), (da, .inl (g.2.1, 121, .inl (upd v2 j (nI (zWr rt py T (T - j))))))] H := hP
        have hD : va_D A [(h, .inr (0, [.int (nI rt), .int (nI lf), .ref pa, .ref da, .int (nI T), .int (nI P), .long R, .long xI, .long xP, .long xW, .long xG])), (pa, .inl (g.2.1, 120, .inl u)), (da, .inl (g.2.1, 121, .inl (upd v2 j (nI (zWr rt py T (T - j))))))] := hD
        refine lv_iinc (v := nI j + (-1)) (lv' := [(1, .int (nI j + (-1))), (0, .ref h)]) hx hb dX0_layDebts_56 hl (k := 0) rfl (by rw [pk_m1 j]; rfl) (by decide) rfl (fun ls hl => ?_)
        refine lv_goto (tgt := 17) hx hb dX0_layDebts_59 (by decide) ?_
        exact ih j (upd v2 j (nI (zWr rt py T (T - j)))) H _ _ (by omega) (by omega) (by omega) (fun i h1 h2 => if hi : i = j then (by rw [hi, z_upd_s]) else (by rw [z_upd_n _ _ hi]; exact hv i (by omega) h2)) hP hD hS (lv_sub hl [0, 1] rfl)
  exact loop (T + 1) T _ H _ _ (by omega) (by omega) (by omega) (fun j h1 h2 => (by rw [Nat.le_antisymm h2 h1, z_upd_s, Nat.sub_self]; rfl)) hP hD hS (lv_sub hl [0, 1] rfl)

set_option maxHeartbeats 4000000 in
set_option maxRecDepth 100000 in
theorem c_scalePayments (l : Launch) (g : zG) (h pa da rt lf T P : Nat) (R xI xP xW xG : Int64) (u v : Nat → Int32) (py : Nat → Nat) (a0 : Nat) (hT : T ≤ 120) (hPT : P ≤ T) (hp : ∀ j, P ≤ j → j < T → py j ≤ 1000000) (hu : ∀ j, P ≤ j → j < T → u j = nI (py j)) (ha0 : a0 ≤ 200) : zMv l yX0_scalePayments wsX0_scalePayments ({ frames := 1, cells := 0, slots := 0, locals := 22 } : Room) [.ref h, .int (nI a0)] g [(h, .inr (0, [.int (nI rt), .int (nI lf), .ref pa, .ref da, .int (nI T), .int (nI P), .long R, .long xI, .long xP, .long xW, .long xG])), (pa, .inl (g.2.1, 120, .inl u)), (da, .inl (g.2.1, 121, .inl v))] (fun w => ∃ u' : Nat → Int32, w = [(h, .inr (0, [.int (nI rt), .int (nI lf), .ref pa, .ref da, .int (nI T), .int (nI P), .long R, .long xI, .long xP, .long xW, .long xG])), (pa, .inl (g.2.1, 120, .inl u')), (da, .inl (g.2.1, 121, .inl v))] ∧ ∀ j, P ≤ j → j < T → u' j = nI (zSc a0 py j)) 0 0 := by
  intro sz A hAe
  refine Met.ofW (cc := cX0_scalePayments) (maxL := 3) (ret := none) (by decide) rfl ?_
  intro p e s m args below meth c s₁ B hml hv
  obtain ⟨rfl, hsz, hP, hK, hD0⟩ := hv
  have hx := B.exec
  have hb := B.bytes
  have hr := B.returns
  have hts := atoms_spec (ws := wsX0_scalePayments) B.pre
  have hown : s.vm.findClass RX0 = some m.cls := findClass_of_methodNamed B.named
  have hlocks := B.notSynchronized
  obtain ⟨hD, hA, hS⟩ := z_in hsz hAe hD0
  have hl := lv_entry ([.ref h, .int (nI a0)]) (n := 3) (Nat.le_of_ble_eq_true rfl)
  rw [lg_entry_eq]
  generalize (lg_sl ([.ref h, .int (nI a0)]) ++ List.replicate (3 - (lg_sl ([.ref h, .int (nI a0)])).length) Slot.unset).toArray = ls at hl ⊢
  have hl : lv_has ls 3 [(0, .ref h), (1, .int (nI a0))] := hl
  have hinX0 : ∀ w ∈ wsX00, w ∈ wsX0_scalePayments := by decide +kernel
  refine lv_aload_n hx hb dX0_scalePayments_0 rfl (lv_at hl 0 rfl) ?_
  refine va_get (D := g.1) (ci := 0) (v := .int (nI P)) (C := RX0) (T := TX0) (N := 11) hx hb hts hinX0 hown hK hP 0 rfl rfl 5 (by decide) (hts (.fieldLink RX0 48 "Usewise$Lease" "past" "I") (by decide +kernel)) (fun _ h9 => h9) rfl dX0_scalePayments_1 ?_
  refine lv_istore_n (lv' := [(2, .int (nI P)), (0, .ref h), (1, .int (nI a0))]) hx hb dX0_scalePayments_4 rfl hl (by decide) rfl (fun ls hl => ?_)
  have loop : ∀ (n : Nat) (k : Nat) (u2 : Nat → Int32) (H : Heap) (locs : List Loc) (ls : Array Slot), T < k + n → P ≤ k → k ≤ T → (∀ j, P ≤ j → j < k → u2 j = nI (zSc a0 py j)) → (∀ j, k ≤ j → j < T → u2 j = nI (py j)) → va_P g.1 vwCl [(h, .inr (0, [.int (nI rt), .int (nI lf), .ref pa, .ref da, .int (nI T), .int (nI P), .long R, .long xI, .long xP, .long xW, .long xG])), (pa, .inl (g.2.1, 120, .inl u2)), (da, .inl (g.2.1, 121, .inl v))] H → va_D A [(h, .inr (0, [.int (nI rt), .int (nI lf), .ref pa, .ref da, .int (nI T), .int (nI P), .long R, .long xI, .long xP, .long xW, .long xG])), (pa, .inl (g.2.1, 120, .inl u2)), (da, .inl (g.2.1, 121, .inl v))] → va_S A s.heap H locs → lv_has ls 3 [(2, .int (nI k)), (0, .ref h), (1, .int (nI a0))] → W p l e (headSpec wsX0_scalePayments ({ frames := 1, cells := 0, slots := 0, locals := 22 } : Room)).room s m ([.ref h, .int (nI a0)] : List Value).toArray below meth c H locs 0 0 (MQ below (va_Qv (fun w => ∃ u' : Nat → Int32, w = [(h, .inr (0, [.int (nI rt), .int (nI lf), .ref pa, .ref da, .int (nI T), .int (nI P), .long R, .long xI, .long xP, .long xW, .long xG])), (pa, .inl (g.2.1, 120, .inl u')), (da, .inl (g.2.1, 121, .inl v))] ∧ ∀ j, P ≤ j → j < T → u' j = nI (zSc a0 py j)) (zOut g A) A) ([.ref h, .int (nI a0)] : List Value).toArray s 0 0 A) (F0 m 5 ls []) := by
    intro n
    induction n with
    | zero =>
      intro k u2 H locs ls hn hk1 hk2 hv1 hv2 hP hD hS hl
      omega
    | succ n ih =>
      intro k u2 H locs ls hn hk1 hk2 hv1 hv2 hP hD hS hl
      refine lv_iload_n hx hb dX0_scalePayments_5 rfl (lv_at hl 0 rfl) ?_
      refine lv_aload_n hx hb dX0_scalePayments_6 rfl (lv_at hl 1 rfl) ?_
      refine va_get (D := g.1) (ci := 0) (v := .int (nI T)) (C := RX0) (T := TX0) (N := 11) hx hb hts hinX0 hown hK hP 0 rfl rfl 4 (by decide) (hts (.fieldLink RX0 27 "Usewise$Lease" "term" "I") (by decide +kernel)) (fun _ h9 => h9) rfl dX0_scalePayments_7 ?_
      refine z_icmp_ge (tgt := 37) hx hb dX0_scalePayments_10 (by decide) (by omega) (by omega) (fun hc => ?_) (fun hc => ?_)
      · exact z_vret hx hb hr hP hK hD hS dX0_scalePayments_37 hlocks (⟨u2, rfl, fun j h1 h2 => hv1 j h1 (by omega)⟩)
      · have hpj := hp k (by omega) (by omega)
        refine lv_aload_n hx hb dX0_scalePayments_13 rfl (lv_at hl 1 rfl) ?_
        refine va_get (D := g.1) (ci := 0) (v := .ref pa) (C := RX0) (T := TX0) (N := 11) hx hb hts hinX0 hown hK hP 0 rfl rfl 2 (by decide) (hts (.fieldLink RX0 30 "Usewise$Lease" "payments" "[I") (by decide +kernel)) (fun _ h9 => h9) rfl dX0_scalePayments_14 ?_
        refine lv_iload_n hx hb dX0_scalePayments_17 rfl (lv_at hl 0 rfl) ?_
        refine lv_aload_n hx hb dX0_scalePayments_18 rfl (lv_at hl 1 rfl) ?_
        refine va_get (D := g.1) (ci := 0) (v := .ref pa) (C := RX0) (T := TX0) (N := 11) hx hb hts hinX0 hown hK hP 0 rfl rfl 2 (by decide) (hts (.fieldLink RX0 30 "Usewise$Lease" "payments" "[I") (by decide +kernel)) (fun _ h9 => h9) rfl dX0_scalePayments_19 ?_
        refine lv_iload_n hx hb dX0_scalePayments_22 rfl (lv_at hl 0 rfl) ?_
        refine z_iald hx hb hK hP 1 0 rfl rfl (by omega) (by decide) dX0_scalePayments_23 ?_
        refine zi (y := nI (py k)) (hv2 k (by omega) (by omega)) ?_
        refine z_i2l hx hb dX0_scalePayments_24 (by omega) ?_
        refine lv_iload_n hx hb dX0_scalePayments_25 rfl (lv_at hl 2 rfl) ?_
        refine z_al (wa := [(h, .inr (0, [.int (nI rt), .int (nI lf), .ref pa, .ref da, .int (nI T), .int (nI P), .long R, .long xI, .long xP, .long xW, .long xG])), (pa, .inl (g.2.1, 120, .inl u2)), (da, .inl (g.2.1, 121, .inl v))]) (wc := []) (wb := []) (va_runS (As := [.long (lN (py k)), .int (nI a0)]) (rest := [.int (nI k), .ref pa]) ⟨hx, hb, hml, hown, hts⟩ (c_percentOf l g (py k) a0 ha0 (by omega) H.size _ rfl) (va_cwS 2 hts gX0_scalePayments_X0_percentOf rfl rfl rfl (by decide +kernel) ⟨Nat.le_of_ble_eq_true rfl, Nat.le_of_ble_eq_true rfl⟩) (zpreS (wa := [(h, .inr (0, [.int (nI rt), .int (nI lf), .ref pa, .ref da, .int (nI T), .int (nI P), .long R, .long xI, .long xP, .long xW, .long xG])), (pa, .inl (g.2.1, 120, .inl u2)), (da, .inl (g.2.1, 121, .inl v))]) (wc := []) (wb := []) hK hP hD) rfl rfl hl.1 rfl (lv_room (Nat.le_of_ble_eq_true rfl)) dX0_scalePayments_26 ⟨Nat.le_of_ble_eq_true rfl, Nat.le_of_ble_eq_true rfl⟩) hP hD hS hA (fun r_1 w1 H locs hq hP hD hS => ?_)
        obtain ⟨rfl, rfl⟩ := hq
        have hP : va_P g.1 vwCl [(h, .inr (0, [.int (nI rt), .int (nI lf), .ref pa, .ref da, .int (nI T), .int (nI P), .long R, .long xI, .long xP, .long xW, .long xG])), (pa, .inl (g.2.1, 120, .inl u2)), (da, .inl (g.2.1, 121, .inl v))] H := hP
        have hD : va_D A [(h, .inr (0, [.int (nI rt), .int (nI lf), .ref pa, .ref da, .int (nI T), .int (nI P), .long R, .long xI, .long xP, .long xW, .long xG])), (pa, .inl (g.2.1, 120, .inl u2)), (da, .inl (g.2.1, 121, .inl v))] := hD
        refine z_l2i hx hb dX0_scalePayments_29 ?_
        refine z_iast hx hb hK hP hD hS 1 0 rfl rfl (by omega) (by decide) dX0_scalePayments_30 (fun H locs hP hD hS => ?_)
        have hP : va_P g.1 vwCl [(h, .inr (0, [.int (nI rt), .int (nI lf), .ref pa, .ref da, .int (nI T), .int (nI P), .long R, .long xI, .long xP, .long xW, .long xG])), (pa, .inl (g.2.1, 120, .inl (upd u2 k (nI (py k * a0 / 100))))), (da, .inl (g.2.1, 121, .inl v))] H := hP
        have hD : va_D A [(h, .inr (0, [.int (nI rt), .int (nI lf), .ref pa, .ref da, .int (nI T), .int (nI P), .long R, .long xI, .long xP, .long xW, .long xG])), (pa, .inl (g.2.1, 120, .inl (upd u2 k (nI (py k * a0 / 100))))), (da, .inl (g.2.1, 121, .inl v))] := hD
        refine z_iinc (lv' := [(2, .int (nI (k + 1))), (0, .ref h), (1, .int (nI a0))]) hx hb dX0_scalePayments_31 hl (k := 0) rfl (by decide) rfl (fun ls hl => ?_)
        refine lv_goto (tgt := 5) hx hb dX0_scalePayments_34 (by decide) ?_
        exact ih (k + 1) (upd u2 k (nI (py k * a0 / 100))) H _ _ (by omega) (by omega) (by omega) (fun i h1 h2 => if hi : i = k then (by rw [hi, z_upd_s]; rfl) else (by rw [z_upd_n _ _ hi]; exact hv1 i h1 (by omega))) (fun i h1 h2 => by rw [z_upd_n _ _ (by omega)]; exact hv2 i (by omega) h2) hP hD hS (lv_sub hl [0, 1, 2] rfl)
  exact loop (T + 1) P _ _ _ _ (by omega) (by omega) (by omega) (fun j h1 h2 => absurd h2 (by omega)) hu hP hD hS (lv_sub hl [0, 1, 2] rfl)

set_option maxHeartbeats 4000000 in
set_option maxRecDepth 100000 in
theorem c_wouldPassTheMost (l : Launch) (g : zG) (h pa da rt lf T P : Nat) (R xI xP xW xG : Int64) (u v : Nat → Int32) (py : Nat → Nat) (a0 : Nat) (hT : T ≤ 120) (hPT : P ≤ T) (hp : ∀ j, P ≤ j → j < T → py j ≤ 1000000) (hu : ∀ j, P ≤ j → j < T → u j = nI (py j)) (ha0 : a0 ≤ 200) : zMi l yX0_wouldPassTheMost wsX0_wouldPassTheMost ({ frames := 1, cells := 0, slots := 0, locals := 22 } : Room) [.ref h, .int (nI a0)] g [(h, .inr (0, [.int (nI rt), .int (nI lf), .ref pa, .ref da, .int (nI T), .int (nI P), .long R, .long xI, .long xP, .long xW, .long xG])), (pa, .inl (g.2.1, 120, .inl u)), (da, .inl (g.2.1, 121, .inl v))] (fun q w => (((∃ j, P ≤ j ∧ j < T ∧ 1000000 < zSc a0 py j) ∧ q = nI 1) ∨ ((∀ j, P ≤ j → j < T → zSc a0 py j ≤ 1000000) ∧ q = nI 0)) ∧ w = [(h, .inr (0, [.int (nI rt), .int (nI lf), .ref pa, .ref da, .int (nI T), .int (nI P), .long R, .long xI, .long xP, .long xW, .long xG])), (pa, .inl (g.2.1, 120, .inl u)), (da, .inl (g.2.1, 121, .inl v))]) 0 0 := by
  intro sz A hAe
  refine Met.ofW (cc := cX0_wouldPassTheMost) (maxL := 3) (ret := some .boolean) (by decide) rfl ?_
  intro p e s m args below meth c s₁ B hml hv
  obtain ⟨rfl, hsz, hP, hK, hD0⟩ := hv
  have hx := B.exec
  have hb := B.bytes
  have hr := B.returns
  have hts := atoms_spec (ws := wsX0_wouldPassTheMost) B.pre
  have hown : s.vm.findClass RX0 = some m.cls := findClass_of_methodNamed B.named
  have hlocks := B.notSynchronized
  obtain ⟨hD, hA, hS⟩ := z_in hsz hAe hD0
  have hl := lv_entry ([.ref h, .int (nI a0)]) (n := 3) (Nat.le_of_ble_eq_true rfl)
  rw [lg_entry_eq]
  generalize (lg_sl ([.ref h, .int (nI a0)]) ++ List.replicate (3 - (lg_sl ([.ref h, .int (nI a0)])).length) Slot.unset).toArray = ls at hl ⊢
  have hl : lv_has ls 3 [(0, .ref h), (1, .int (nI a0))] := hl
  have hinX0 : ∀ w ∈ wsX00, w ∈ wsX0_wouldPassTheMost := by decide +kernel
  refine lv_aload_n hx hb dX0_wouldPassTheMost_0 rfl (lv_at hl 0 rfl) ?_
  refine va_get (D := g.1) (ci := 0) (v := .int (nI P)) (C := RX0) (T := TX0) (N := 11) hx hb hts hinX0 hown hK hP 0 rfl rfl 5 (by decide) (hts (.fieldLink RX0 48 "Usewise$Lease" "past" "I") (by decide +kernel)) (fun _ h9 => h9) rfl dX0_wouldPassTheMost_1 ?_
  refine lv_istore_n (lv' := [(2, .int (nI P)), (0, .ref h), (1, .int (nI a0))]) hx hb dX0_wouldPassTheMost_4 rfl hl (by decide) rfl (fun ls hl => ?_)
  have loop : ∀ (n : Nat) (k : Nat) (H : Heap) (locs : List Loc) (ls : Array Slot), T < k + n → P ≤ k → k ≤ T → (∀ j, P ≤ j → j < k → zSc a0 py j ≤ 1000000) → va_P g.1 vwCl [(h, .inr (0, [.int (nI rt), .int (nI lf), .ref pa, .ref da, .int (nI T), .int (nI P), .long R, .long xI, .long xP, .long xW, .long xG])), (pa, .inl (g.2.1, 120, .inl u)), (da, .inl (g.2.1, 121, .inl v))] H → va_D A [(h, .inr (0, [.int (nI rt), .int (nI lf), .ref pa, .ref da, .int (nI T), .int (nI P), .long R, .long xI, .long xP, .long xW, .long xG])), (pa, .inl (g.2.1, 120, .inl u)), (da, .inl (g.2.1, 121, .inl v))] → va_S A s.heap H locs → lv_has ls 3 [(2, .int (nI k)), (0, .ref h), (1, .int (nI a0))] → W p l e (headSpec wsX0_wouldPassTheMost ({ frames := 1, cells := 0, slots := 0, locals := 22 } : Room)).room s m ([.ref h, .int (nI a0)] : List Value).toArray below meth c H locs 0 0 (MQ below (va_Qi (fun q w => (((∃ j, P ≤ j ∧ j < T ∧ 1000000 < zSc a0 py j) ∧ q = nI 1) ∨ ((∀ j, P ≤ j → j < T → zSc a0 py j ≤ 1000000) ∧ q = nI 0)) ∧ w = [(h, .inr (0, [.int (nI rt), .int (nI lf), .ref pa, .ref da, .int (nI T), .int (nI P), .long R, .long xI, .long xP, .long xW, .long xG])), (pa, .inl (g.2.1, 120, .inl u)), (da, .inl (g.2.1, 121, .inl v))]) (zOut g A) A) ([.ref h, .int (nI a0)] : List Value).toArray s 0 0 A) (F0 m 5 ls []) := by
    intro n
    induction n with
    | zero =>
      intro k H locs ls hn hk1 hk2 hv1 hP hD hS hl
      omega
    | succ n ih =>
      intro k H locs ls hn hk1 hk2 hv1 hP hD hS hl
      refine lv_iload_n hx hb dX0_wouldPassTheMost_5 rfl (lv_at hl 0 rfl) ?_
      refine lv_aload_n hx hb dX0_wouldPassTheMost_6 rfl (lv_at hl 1 rfl) ?_
      refine va_get (D := g.1) (ci := 0) (v := .int (nI T)) (C := RX0) (T := TX0) (N := 11) hx hb hts hinX0 hown hK hP 0 rfl rfl 4 (by decide) (hts (.fieldLink RX0 27 "Usewise$Lease" "term" "I") (by decide +kernel)) (fun _ h9 => h9) rfl dX0_wouldPassTheMost_7 ?_
      refine z_icmp_ge (tgt := 39) hx hb dX0_wouldPassTheMost_10 (by decide) (by omega) (by omega) (fun hc => ?_) (fun hc => ?_)
      · refine lv_iconst (v := nI 0) hx hb dX0_wouldPassTheMost_39 (by decide) ?_
        exact z_zret hx hb hr (by decide) hP hK hD hS dX0_wouldPassTheMost_40 hlocks (⟨Or.inr ⟨fun j h1 h2 => hv1 j h1 (by omega), rfl⟩, rfl⟩)
      · have hpj := hp k (by omega) (by omega)
        refine lv_aload_n hx hb dX0_wouldPassTheMost_13 rfl (lv_at hl 1 rfl) ?_
        refine va_get (D := g.1) (ci := 0) (v := .ref pa) (C := RX0) (T := TX0) (N := 11) hx hb hts hinX0 hown hK hP 0 rfl rfl 2 (by decide) (hts (.fieldLink RX0 30 "Usewise$Lease" "payments" "[I") (by decide +kernel)) (fun _ h9 => h9) rfl dX0_wouldPassTheMost_14 ?_
        refine lv_iload_n hx hb dX0_wouldPassTheMost_17 rfl (lv_at hl 0 rfl) ?_
        refine z_iald hx hb hK hP 1 0 rfl rfl (by omega) (by decide) dX0_wouldPassTheMost_18 ?_
        refine zi (y := nI (py k)) (hu k (by omega) (by omega)) ?_
        refine z_i2l hx hb dX0_wouldPassTheMost_19 (by omega) ?_
        refine lv_iload_n hx hb dX0_wouldPassTheMost_20 rfl (lv_at hl 2 rfl) ?_
        refine z_al (wa := [(h, .inr (0, [.int (nI rt), .int (nI lf), .ref pa, .ref da, .int (nI T), .int (nI P), .long R, .long xI, .long xP, .long xW, .long xG])), (pa, .inl (g.2.1, 120, .inl u)), (da, .inl (g.2.1, 121, .inl v))]) (wc := []) (wb := []) (va_runS (As := [.long (lN (py k)), .int (nI a0)]) (rest := []) ⟨hx, hb, hml, hown, hts⟩ (c_percentOf l g (py k) a0 ha0 (by omega) H.size _ rfl) (va_cwS 2 hts gX0_wouldPassTheMost_X0_percentOf rfl rfl rfl (by decide +kernel) ⟨Nat.le_of_ble_eq_true rfl, Nat.le_of_ble_eq_true rfl⟩) (zpreS (wa := [(h, .inr (0, [.int (nI rt), .int (nI lf), .ref pa, .ref da, .int (nI T), .int (nI P), .long R, .long xI, .long xP, .long xW, .long xG])), (pa, .inl (g.2.1, 120, .inl u)), (da, .inl (g.2.1, 121, .inl v))]) (wc := []) (wb := []) hK hP hD) rfl rfl hl.1 rfl (lv_room (Nat.le_of_ble_eq_true rfl)) dX0_wouldPassTheMost_21 ⟨Nat.le_of_ble_eq_true rfl, Nat.le_of_ble_eq_true rfl⟩) hP hD hS hA (fun r_1 w1 H locs hq hP hD hS => ?_)
        obtain ⟨rfl, rfl⟩ := hq
        have hP : va_P g.1 vwCl [(h, .inr (0, [.int (nI rt), .int (nI lf), .ref pa, .ref da, .int (nI T), .int (nI P), .long R, .long xI, .long xP, .long xW, .long xG])), (pa, .inl (g.2.1, 120, .inl u)), (da, .inl (g.2.1, 121, .inl v))] H := hP
        have hD : va_D A [(h, .inr (0, [.int (nI rt), .int (nI lf), .ref pa, .ref da, .int (nI T), .int (nI P), .long R, .long xI, .long xP, .long xW, .long xG])), (pa, .inl (g.2.1, 120, .inl u)), (da, .inl (g.2.1, 121, .inl v))] := hD
        have hq0 : py k * a0 ≤ 1000000 * 200 := Nat.mul_le_mul hpj ha0
        refine lv_ldc2 (v := lN 1000000) hx hb hown (hts (.constantLong RX0 55 (1000000)) (by decide +kernel)) dX0_wouldPassTheMost_24 ?_
        refine z_lif_le (tgt := 33) (pc2 := 28) hx hb dX0_wouldPassTheMost_27 rfl dX0_wouldPassTheMost_28 (by decide) (fun hd => ?_) (fun hd => ?_)
        · rw [pk_lLE (by omega) (by decide)] at hd
          refine z_iinc (lv' := [(2, .int (nI (k + 1))), (0, .ref h), (1, .int (nI a0))]) hx hb dX0_wouldPassTheMost_33 hl (k := 0) rfl (by decide) rfl (fun ls hl => ?_)
          refine lv_goto (tgt := 5) hx hb dX0_wouldPassTheMost_36 (by decide) ?_
          exact ih (k + 1) H _ _ (by omega) (by omega) (by omega) (fun i h1 h2 => if hi : i = k then (by rw [hi]; exact hd) else hv1 i h1 (by omega)) hP hD hS (lv_sub hl [0, 1, 2] rfl)
        · rw [pk_lLT (by decide) (by omega)] at hd
          refine lv_iconst (v := nI 1) hx hb dX0_wouldPassTheMost_31 (by decide) ?_
          exact z_zret hx hb hr (by decide) hP hK hD hS dX0_wouldPassTheMost_32 hlocks (⟨Or.inl ⟨⟨k, by omega, by omega, hd⟩, rfl⟩, rfl⟩)
  exact loop (T + 1) P _ _ _ (by omega) (by omega) (by omega) (fun j h1 h2 => absurd h2 (by omega)) hP hD hS (lv_sub hl [0, 1, 2] rfl)

set_option maxHeartbeats 4000000 in
set_option maxRecDepth 100000 in
theorem c_followDebt (l : Launch) (g : zG) (h pa da rt lf T P R0 : Nat) (xI xP xW xG : Int64) (u v : Nat → Int32) (py : Nat → Nat) (D0 : Nat) (hT : T ≤ 120) (hPT : P ≤ T) (hp : ∀ j, P ≤ j → j < T → py j ≤ 1000000) (hu : ∀ j, P ≤ j → j < T → u j = nI (py j)) (hrt : rt ≤ 20000) (hv0 : v P = nI D0) (hD0 : D0 ≤ 120000000) (hR0 : R0 ≤ 240000000) : zMv l yX0_followDebt wsX0_followDebt ({ frames := 2, cells := 0, slots := 0, locals := 46 } : Room) [.ref h] g [(h, .inr (0, [.int (nI rt), .int (nI lf), .ref pa, .ref da, .int (nI T), .int (nI P), .long (lN R0), .long xI, .long xP, .long xW, .long xG])), (pa, .inl (g.2.1, 120, .inl u)), (da, .inl (g.2.1, 121, .inl v))] (fun w => ∃ (v' : Nat → Int32) (R1 : Nat) (yG : Int64), w = [(h, .inr (0, [.int (nI rt), .int (nI lf), .ref pa, .ref da, .int (nI T), .int (nI P), .long (lN R1), .long xI, .long xP, .long xW, .long yG])), (pa, .inl (g.2.1, 120, .inl u)), (da, .inl (g.2.1, 121, .inl v'))] ∧ (∀ j, P ≤ j → j ≤ T → v' j = nI (zWr rt py T (T - j))) ∧ ((R0 + zWr rt py T (T - P) < D0 ∧ R1 = 0 ∧ yG.toInt32 = xG.toInt32 - (nI R0 + (nI (zWr rt py T (T - P)) - nI D0))) ∨ (D0 ≤ R0 + zWr rt py T (T - P) ∧ R1 = R0 + zWr rt py T (T - P) - D0 ∧ yG = xG))) 0 0 := by
  intro sz A hAe
  refine Met.ofW (cc := cX0_followDebt) (maxL := 3) (ret := none) (by decide) rfl ?_
  intro p e s m args below meth c s₁ B hml hv
  obtain ⟨rfl, hsz, hP, hK, hD0⟩ := hv
  have hx := B.exec
  have hb := B.bytes
  have hr := B.returns
  have hts := atoms_spec (ws := wsX0_followDebt) B.pre
  have hown : s.vm.findClass RX0 = some m.cls := findClass_of_methodNamed B.named
  have hlocks := B.notSynchronized
  obtain ⟨hD, hA, hS⟩ := z_in hsz hAe hD0
  have hl := lv_entry ([.ref h]) (n := 3) (Nat.le_of_ble_eq_true rfl)
  rw [lg_entry_eq]
  generalize (lg_sl ([.ref h]) ++ List.replicate (3 - (lg_sl ([.ref h])).length) Slot.unset).toArray = ls at hl ⊢
  have hl : lv_has ls 3 [(0, .ref h)] := hl
  have hinX0 : ∀ w ∈ wsX00, w ∈ wsX0_followDebt := by decide +kernel
  have hD1 := z_wb (r := rt) (j := P) hT hp (Nat.le_refl P)
  refine lv_aload_n hx hb dX0_followDebt_0 rfl (lv_at hl 0 rfl) ?_
  refine z_ai (wa := []) (wc := [(h, .inr (0, [.int (nI rt), .int (nI lf), .ref pa, .ref da, .int (nI T), .int (nI P), .long (lN R0), .long xI, .long xP, .long xW, .long xG])), (pa, .inl (g.2.1, 120, .inl u)), (da, .inl (g.2.1, 121, .inl v))]) (wb := []) (va_runV (As := []) (rest := []) ⟨hx, hb, hml, hown, hts⟩ (c_debtNow l g h pa da rt lf T P (lN R0) xI xP xW xG u v (by omega) s.heap.size _ rfl) (cwV 0 hts gX0_followDebt_X0_debtNow rfl rfl rfl (by decide +kernel) ⟨Nat.le_of_ble_eq_true rfl, Nat.le_of_ble_eq_true rfl⟩) (zpreV (wa := []) (wc := [(h, .inr (0, [.int (nI rt), .int (nI lf), .ref pa, .ref da, .int (nI T), .int (nI P), .long (lN R0), .long xI, .long xP, .long xW, .long xG])), (pa, .inl (g.2.1, 120, .inl u)), (da, .inl (g.2.1, 121, .inl v))]) (wb := []) (q0 := 0) (ci := 0) (T := TX0) (N := 11) hK hP hD rfl rfl) rfl rfl hl.1 rfl (lv_room (Nat.le_of_ble_eq_true rfl)) dX0_followDebt_1 ⟨Nat.le_of_ble_eq_true rfl, Nat.le_of_ble_eq_true rfl⟩) hP hD hS hA (fun r_1 w1 H locs hq hP hD hS => ?_)
  obtain ⟨rfl, rfl⟩ := hq
  have hP : va_P g.1 vwCl [(h, .inr (0, [.int (nI rt), .int (nI lf), .ref pa, .ref da, .int (nI T), .int (nI P), .long (lN R0), .long xI, .long xP, .long xW, .long xG])), (pa, .inl (g.2.1, 120, .inl u)), (da, .inl (g.2.1, 121, .inl v))] H := hP
  have hD : va_D A [(h, .inr (0, [.int (nI rt), .int (nI lf), .ref pa, .ref da, .int (nI T), .int (nI P), .long (lN R0), .long xI, .long xP, .long xW, .long xG])), (pa, .inl (g.2.1, 120, .inl u)), (da, .inl (g.2.1, 121, .inl v))] := hD
  refine zi (y := nI D0) (hv0) ?_
  refine z_i2l hx hb dX0_followDebt_4 (by omega) ?_
  refine lv_lstore_n (lv' := [(1, .long (lN D0)), (0, .ref h)]) hx hb dX0_followDebt_5 rfl hl (by decide) rfl (fun ls hl => ?_)
  refine lv_aload_n hx hb dX0_followDebt_6 rfl (lv_at hl 1 rfl) ?_
  refine z_av (wa := []) (wc := [(h, .inr (0, [.int (nI rt), .int (nI lf), .ref pa, .ref da, .int (nI T), .int (nI P), .long (lN R0), .long xI, .long xP, .long xW, .long xG])), (pa, .inl (g.2.1, 120, .inl u)), (da, .inl (g.2.1, 121, .inl v))]) (wb := []) (va_runV (As := []) (rest := []) ⟨hx, hb, hml, hown, hts⟩ (c_layDebts l g h pa da rt lf T P (lN R0) xI xP xW xG u v py hT hPT hp hu hrt H.size _ rfl) (cwV 0 hts gX0_followDebt_X0_layDebts rfl rfl rfl (by decide +kernel) ⟨Nat.le_of_ble_eq_true rfl, Nat.le_of_ble_eq_true rfl⟩) (zpreV (wa := []) (wc := [(h, .inr (0, [.int (nI rt), .int (nI lf), .ref pa, .ref da, .int (nI T), .int (nI P), .long (lN R0), .long xI, .long xP, .long xW, .long xG])), (pa, .inl (g.2.1, 120, .inl u)), (da, .inl (g.2.1, 121, .inl v))]) (wb := []) (q0 := 0) (ci := 0) (T := TX0) (N := 11) hK hP hD rfl rfl) rfl rfl hl.1 rfl (lv_room (Nat.le_of_ble_eq_true rfl)) dX0_followDebt_7 ⟨Nat.le_of_ble_eq_true rfl, Nat.le_of_ble_eq_true rfl⟩) hP hD hS hA (fun w1 H locs hq hP hD hS => ?_)
  obtain ⟨v2, rfl, hv2⟩ := hq
  have hP : va_P g.1 vwCl [(h, .inr (0, [.int (nI rt), .int (nI lf), .ref pa, .ref da, .int (nI T), .int (nI P), .long (lN R0), .long xI, .long xP, .long xW, .long xG])), (pa, .inl (g.2.1, 120, .inl u)), (da, .inl (g.2.1, 121, .inl v2))] H := hP
  have hD : va_D A [(h, .inr (0, [.int (nI rt), .int (nI lf), .ref pa, .ref da, .int (nI T), .int (nI P), .long (lN R0), .long xI, .long xP, .long xW, .long xG])), (pa, .inl (g.2.1, 120, .inl u)), (da, .inl (g.2.1, 121, .inl v2))] := hD
  refine lv_aload_n hx hb dX0_followDebt_10 rfl (lv_at hl 1 rfl) ?_
  refine lv_dup hx hb dX0_followDebt_11 rfl ?_
  refine va_get (D := g.1) (ci := 0) (v := .long (lN R0)) (C := RX0) (T := TX0) (N := 11) hx hb hts hinX0 hown hK hP 0 rfl rfl 6 (by decide) (hts (.fieldLink RX0 44 "Usewise$Lease" "right" "J") (by decide +kernel)) (fun _ h9 => h9) rfl dX0_followDebt_12 ?_
  refine lv_aload_n hx hb dX0_followDebt_15 rfl (lv_at hl 1 rfl) ?_
  refine z_ai (wa := []) (wc := [(h, .inr (0, [.int (nI rt), .int (nI lf), .ref pa, .ref da, .int (nI T), .int (nI P), .long (lN R0), .long xI, .long xP, .long xW, .long xG])), (pa, .inl (g.2.1, 120, .inl u)), (da, .inl (g.2.1, 121, .inl v2))]) (wb := []) (va_runV (As := []) (rest := [.long (lN R0), .ref h]) ⟨hx, hb, hml, hown, hts⟩ (c_debtNow l g h pa da rt lf T P (lN R0) xI xP xW xG u v2 (by omega) H.size _ rfl) (cwV 0 hts gX0_followDebt_X0_debtNow rfl rfl rfl (by decide +kernel) ⟨Nat.le_of_ble_eq_true rfl, Nat.le_of_ble_eq_true rfl⟩) (zpreV (wa := []) (wc := [(h, .inr (0, [.int (nI rt), .int (nI lf), .ref pa, .ref da, .int (nI T), .int (nI P), .long (lN R0), .long xI, .long xP, .long xW, .long xG])), (pa, .inl (g.2.1, 120, .inl u)), (da, .inl (g.2.1, 121, .inl v2))]) (wb := []) (q0 := 0) (ci := 0) (T := TX0) (N := 11) hK hP hD rfl rfl) rfl rfl hl.1 rfl (lv_room (Nat.le_of_ble_eq_true rfl)) dX0_followDebt_16 ⟨Nat.le_of_ble_eq_true rfl, Nat.le_of_ble_eq_true rfl⟩) hP hD hS hA (fun r_3 w1 H locs hq hP hD hS => ?_)
  obtain ⟨rfl, rfl⟩ := hq
  have hP : va_P g.1 vwCl [(h, .inr (0, [.int (nI rt), .int (nI lf), .ref pa, .ref da, .int (nI T), .int (nI P), .long (lN R0), .long xI, .long xP, .long xW, .long xG])), (pa, .inl (g.2.1, 120, .inl u)), (da, .inl (g.2.1, 121, .inl v2))] H := hP
  have hD : va_D A [(h, .inr (0, [.int (nI rt), .int (nI lf), .ref pa, .ref da, .int (nI T), .int (nI P), .long (lN R0), .long xI, .long xP, .long xW, .long xG])), (pa, .inl (g.2.1, 120, .inl u)), (da, .inl (g.2.1, 121, .inl v2))] := hD
  refine zi (y := nI (zWr rt py T (T - P))) (hv2 P (by omega) (by omega)) ?_
  refine z_i2l hx hb dX0_followDebt_19 (by omega) ?_
  refine lv_lload_n hx hb dX0_followDebt_20 rfl (lv_at hl 0 rfl) ?_
  refine lv_lsub hx hb dX0_followDebt_21 ?_
  refine lv_ladd hx hb dX0_followDebt_22 ?_
  refine va_put (D := g.1) (ci := 0) (v := .long ((lN R0) + ((lN (zWr rt py T (T - P))) - (lN D0)))) (ty := .long) (C := RX0) (T := TX0) (N := 11) hx hb hts hinX0 tyX0 tyX0_ok nmX0 hown hK hP hD hS 0 rfl rfl 6 (by decide) (hts (.fieldLink RX0 44 "Usewise$Lease" "right" "J") (by decide +kernel)) (fun _ h9 => h9) rfl (by decide +kernel) rfl rfl (Nat.le_of_ble_eq_true rfl) dX0_followDebt_23 (fun H locs hP hD hS => ?_)
  have hP : va_P g.1 vwCl [(h, .inr (0, [.int (nI rt), .int (nI lf), .ref pa, .ref da, .int (nI T), .int (nI P), .long ((lN R0) + ((lN (zWr rt py T (T - P))) - (lN D0))), .long xI, .long xP, .long xW, .long xG])), (pa, .inl (g.2.1, 120, .inl u)), (da, .inl (g.2.1, 121, .inl v2))] H := hP
  have hD : va_D A [(h, .inr (0, [.int (nI rt), .int (nI lf), .ref pa, .ref da, .int (nI T), .int (nI P), .long ((lN R0) + ((lN (zWr rt py T (T - P))) - (lN D0))), .long xI, .long xP, .long xW, .long xG])), (pa, .inl (g.2.1, 120, .inl u)), (da, .inl (g.2.1, 121, .inl v2))] := hD
  refine lv_aload_n hx hb dX0_followDebt_26 rfl (lv_at hl 1 rfl) ?_
  refine va_get (D := g.1) (ci := 0) (v := .long ((lN R0) + ((lN (zWr rt py T (T - P))) - (lN D0)))) (C := RX0) (T := TX0) (N := 11) hx hb hts hinX0 hown hK hP 0 rfl rfl 6 (by decide) (hts (.fieldLink RX0 44 "Usewise$Lease" "right" "J") (by decide +kernel)) (fun _ h9 => h9) rfl dX0_followDebt_27 ?_
  refine lv_lconst (v := lN 0) hx hb dX0_followDebt_30 rfl ?_
  refine z_lif_ge (tgt := 53) (pc2 := 32) hx hb dX0_followDebt_31 rfl dX0_followDebt_32 (by decide) (fun hc => ?_) (fun hc => ?_)
  · have hc2 : D0 ≤ R0 + zWr rt py T (T - P) := by
      rcases Nat.lt_or_ge (R0 + zWr rt py T (T - P)) D0 with z | z
      · have := z_fol2 z (by omega); rw [Int64.lt_iff_toInt_lt] at this; rw [Int64.le_iff_toInt_le] at hc; omega
      · exact z
    rw [z_fol1 hc2] at hP hD
    exact z_vret hx hb hr hP hK hD hS dX0_followDebt_53 hlocks (⟨v2, _, xG, rfl, hv2, Or.inr ⟨hc2, rfl, rfl⟩⟩)
  · have hc2 : R0 + zWr rt py T (T - P) < D0 := by
      rcases Nat.lt_or_ge (R0 + zWr rt py T (T - P)) D0 with z | z
      · exact z
      · rw [z_fol1 z, pk_lLT (by omega) (by decide)] at hc; omega
    refine lv_aload_n hx hb dX0_followDebt_35 rfl (lv_at hl 1 rfl) ?_
    refine lv_dup hx hb dX0_followDebt_36 rfl ?_
    refine va_get (D := g.1) (ci := 0) (v := .long xG) (C := RX0) (T := TX0) (N := 11) hx hb hts hinX0 hown hK hP 0 rfl rfl 10 (by decide) (hts (.fieldLink RX0 91 "Usewise$Lease" "gains" "J") (by decide +kernel)) (fun _ h9 => h9) rfl dX0_followDebt_37 ?_
    refine lv_aload_n hx hb dX0_followDebt_40 rfl (lv_at hl 1 rfl) ?_
    refine va_get (D := g.1) (ci := 0) (v := .long ((lN R0) + ((lN (zWr rt py T (T - P))) - (lN D0)))) (C := RX0) (T := TX0) (N := 11) hx hb hts hinX0 hown hK hP 0 rfl rfl 6 (by decide) (hts (.fieldLink RX0 44 "Usewise$Lease" "right" "J") (by decide +kernel)) (fun _ h9 => h9) rfl dX0_followDebt_41 ?_
    refine lv_lsub hx hb dX0_followDebt_44 ?_
    refine va_put (D := g.1) (ci := 0) (v := .long (xG - ((lN R0) + ((lN (zWr rt py T (T - P))) - (lN D0))))) (ty := .long) (C := RX0) (T := TX0) (N := 11) hx hb hts hinX0 tyX0 tyX0_ok nmX0 hown hK hP hD hS 0 rfl rfl 10 (by decide) (hts (.fieldLink RX0 91 "Usewise$Lease" "gains" "J") (by decide +kernel)) (fun _ h9 => h9) rfl (by decide +kernel) rfl rfl (Nat.le_of_ble_eq_true rfl) dX0_followDebt_45 (fun H locs hP hD hS => ?_)
    have hP : va_P g.1 vwCl [(h, .inr (0, [.int (nI rt), .int (nI lf), .ref pa, .ref da, .int (nI T), .int (nI P), .long ((lN R0) + ((lN (zWr rt py T (T - P))) - (lN D0))), .long xI, .long xP, .long xW, .long (xG - ((lN R0) + ((lN (zWr rt py T (T - P))) - (lN D0))))])), (pa, .inl (g.2.1, 120, .inl u)), (da, .inl (g.2.1, 121, .inl v2))] H := hP
    have hD : va_D A [(h, .inr (0, [.int (nI rt), .int (nI lf), .ref pa, .ref da, .int (nI T), .int (nI P), .long ((lN R0) + ((lN (zWr rt py T (T - P))) - (lN D0))), .long xI, .long xP, .long xW, .long (xG - ((lN R0) + ((lN (zWr rt py T (T - P))) - (lN D0))))])), (pa, .inl (g.2.1, 120, .inl u)), (da, .inl (g.2.1, 121, .inl v2))] := hD
    refine lv_aload_n hx hb dX0_followDebt_48 rfl (lv_at hl 1 rfl) ?_
    refine lv_lconst (v := lN 0) hx hb dX0_followDebt_49 rfl ?_
    refine va_put (D := g.1) (ci := 0) (v := .long (lN 0)) (ty := .long) (C := RX0) (T := TX0) (N := 11) hx hb hts hinX0 tyX0 tyX0_ok nmX0 hown hK hP hD hS 0 rfl rfl 6 (by decide) (hts (.fieldLink RX0 44 "Usewise$Lease" "right" "J") (by decide +kernel)) (fun _ h9 => h9) rfl (by decide +kernel) rfl rfl (Nat.le_of_ble_eq_true rfl) dX0_followDebt_50 (fun H locs hP hD hS => ?_)
    have hP : va_P g.1 vwCl [(h, .inr (0, [.int (nI rt), .int (nI lf), .ref pa, .ref da, .int (nI T), .int (nI P), .long (lN 0), .long xI, .long xP, .long xW, .long (xG - ((lN R0) + ((lN (zWr rt py T (T - P))) - (lN D0))))])), (pa, .inl (g.2.1, 120, .inl u)), (da, .inl (g.2.1, 121, .inl v2))] H := hP
    have hD : va_D A [(h, .inr (0, [.int (nI rt), .int (nI lf), .ref pa, .ref da, .int (nI T), .int (nI P), .long (lN 0), .long xI, .long xP, .long xW, .long (xG - ((lN R0) + ((lN (zWr rt py T (T - P))) - (lN D0))))])), (pa, .inl (g.2.1, 120, .inl u)), (da, .inl (g.2.1, 121, .inl v2))] := hD
    exact z_vret hx hb hr hP hK hD hS dX0_followDebt_53 hlocks (⟨v2, 0, _, rfl, hv2, Or.inl ⟨hc2, rfl, by rw [z64_sub, z64_add, z64_sub, lN_i, lN_i, lN_i]⟩⟩)

set_option maxHeartbeats 4000000 in
set_option maxRecDepth 100000 in
theorem c_giveUp (l : Launch) (g : zG) (h pa da rt lf T P R0 : Nat) (xI xP xW xG : Int64) (u v : Nat → Int32) (py : Nat → Nat) (D0 R1 : Nat) (hT : T ≤ 120) (hPT : P ≤ T) (hp : ∀ j, P ≤ j → j < T → py j ≤ 1000000) (hu : ∀ j, P ≤ j → j < T → u j = nI (py j)) (hrt : rt ≤ 20000) (hv0 : v P = nI D0) (hD0 : D0 ≤ 120000000) : zMi l yX0_giveUp wsX0_giveUp ({ frames := 2, cells := 0, slots := 0, locals := 46 } : Room) [.ref h, .long (lN R1)] g [(h, .inr (0, [.int (nI rt), .int (nI lf), .ref pa, .ref da, .int (nI T), .int (nI P), .long (lN R0), .long xI, .long xP, .long xW, .long xG])), (pa, .inl (g.2.1, 120, .inl u)), (da, .inl (g.2.1, 121, .inl v))] (fun q w => ∃ (v' : Nat → Int32) (yG : Int64), w = [(h, .inr (0, [.int (nI rt), .int (nI lf), .ref pa, .ref da, .int (nI T), .int (nI P), .long (lN R1), .long xI, .long xP, .long xW, .long yG])), (pa, .inl (g.2.1, 120, .inl u)), (da, .inl (g.2.1, 121, .inl v'))] ∧ (∀ j, P ≤ j → j ≤ T → v' j = nI (zWr rt py T (T - j))) ∧ q = nI D0 - nI (zWr rt py T (T - P)) - (nI R0 - nI R1) ∧ yG.toInt32 = xG.toInt32 + q) 0 0 := by
  intro sz A hAe
  refine Met.ofW (cc := cX0_giveUp) (maxL := 7) (ret := some .int) (by decide) rfl ?_
  intro p e s m args below meth c s₁ B hml hv
  obtain ⟨rfl, hsz, hP, hK, hD0⟩ := hv
  have hx := B.exec
  have hb := B.bytes
  have hr := B.returns
  have hts := atoms_spec (ws := wsX0_giveUp) B.pre
  have hown : s.vm.findClass RX0 = some m.cls := findClass_of_methodNamed B.named
  have hlocks := B.notSynchronized
  obtain ⟨hD, hA, hS⟩ := z_in hsz hAe hD0
  have hl := lv_entry ([.ref h, .long (lN R1)]) (n := 7) (Nat.le_of_ble_eq_true rfl)
  rw [lg_entry_eq]
  generalize (lg_sl ([.ref h, .long (lN R1)]) ++ List.replicate (7 - (lg_sl ([.ref h, .long (lN R1)])).length) Slot.unset).toArray = ls at hl ⊢
  have hl : lv_has ls 7 [(0, .ref h), (1, .long (lN R1))] := hl
  have hinX0 : ∀ w ∈ wsX00, w ∈ wsX0_giveUp := by decide +kernel
  have hD1 := z_wb (r := rt) (j := P) hT hp (Nat.le_refl P)
  refine lv_aload_n hx hb dX0_giveUp_0 rfl (lv_at hl 0 rfl) ?_
  refine z_ai (wa := []) (wc := [(h, .inr (0, [.int (nI rt), .int (nI lf), .ref pa, .ref da, .int (nI T), .int (nI P), .long (lN R0), .long xI, .long xP, .long xW, .long xG])), (pa, .inl (g.2.1, 120, .inl u)), (da, .inl (g.2.1, 121, .inl v))]) (wb := []) (va_runV (As := []) (rest := []) ⟨hx, hb, hml, hown, hts⟩ (c_debtNow l g h pa da rt lf T P (lN R0) xI xP xW xG u v (by omega) s.heap.size _ rfl) (cwV 0 hts gX0_giveUp_X0_debtNow rfl rfl rfl (by decide +kernel) ⟨Nat.le_of_ble_eq_true rfl, Nat.le_of_ble_eq_true rfl⟩) (zpreV (wa := []) (wc := [(h, .inr (0, [.int (nI rt), .int (nI lf), .ref pa, .ref da, .int (nI T), .int (nI P), .long (lN R0), .long xI, .long xP, .long xW, .long xG])), (pa, .inl (g.2.1, 120, .inl u)), (da, .inl (g.2.1, 121, .inl v))]) (wb := []) (q0 := 0) (ci := 0) (T := TX0) (N := 11) hK hP hD rfl rfl) rfl rfl hl.1 rfl (lv_room (Nat.le_of_ble_eq_true rfl)) dX0_giveUp_1 ⟨Nat.le_of_ble_eq_true rfl, Nat.le_of_ble_eq_true rfl⟩) hP hD hS hA (fun r_1 w1 H locs hq hP hD hS => ?_)
  obtain ⟨rfl, rfl⟩ := hq
  have hP : va_P g.1 vwCl [(h, .inr (0, [.int (nI rt), .int (nI lf), .ref pa, .ref da, .int (nI T), .int (nI P), .long (lN R0), .long xI, .long xP, .long xW, .long xG])), (pa, .inl (g.2.1, 120, .inl u)), (da, .inl (g.2.1, 121, .inl v))] H := hP
  have hD : va_D A [(h, .inr (0, [.int (nI rt), .int (nI lf), .ref pa, .ref da, .int (nI T), .int (nI P), .long (lN R0), .long xI, .long xP, .long xW, .long xG])), (pa, .inl (g.2.1, 120, .inl u)), (da, .inl (g.2.1, 121, .inl v))] := hD
  refine zi (y := nI D0) (hv0) ?_
  refine z_i2l hx hb dX0_giveUp_4 (by omega) ?_
  refine lv_lstore_n (lv' := [(3, .long (lN D0)), (0, .ref h), (1, .long (lN R1))]) hx hb dX0_giveUp_5 rfl hl (by decide) rfl (fun ls hl => ?_)
  refine lv_aload_n hx hb dX0_giveUp_6 rfl (lv_at hl 1 rfl) ?_
  refine z_av (wa := []) (wc := [(h, .inr (0, [.int (nI rt), .int (nI lf), .ref pa, .ref da, .int (nI T), .int (nI P), .long (lN R0), .long xI, .long xP, .long xW, .long xG])), (pa, .inl (g.2.1, 120, .inl u)), (da, .inl (g.2.1, 121, .inl v))]) (wb := []) (va_runV (As := []) (rest := []) ⟨hx, hb, hml, hown, hts⟩ (c_layDebts l g h pa da rt lf T P (lN R0) xI xP xW xG u v py hT hPT hp hu hrt H.size _ rfl) (cwV 0 hts gX0_giveUp_X0_layDebts rfl rfl rfl (by decide +kernel) ⟨Nat.le_of_ble_eq_true rfl, Nat.le_of_ble_eq_true rfl⟩) (zpreV (wa := []) (wc := [(h, .inr (0, [.int (nI rt), .int (nI lf), .ref pa, .ref da, .int (nI T), .int (nI P), .long (lN R0), .long xI, .long xP, .long xW, .long xG])), (pa, .inl (g.2.1, 120, .inl u)), (da, .inl (g.2.1, 121, .inl v))]) (wb := []) (q0 := 0) (ci := 0) (T := TX0) (N := 11) hK hP hD rfl rfl) rfl rfl hl.1 rfl (lv_room (Nat.le_of_ble_eq_true rfl)) dX0_giveUp_7 ⟨Nat.le_of_ble_eq_true rfl, Nat.le_of_ble_eq_true rfl⟩) hP hD hS hA (fun w1 H locs hq hP hD hS => ?_)
  obtain ⟨v2, rfl, hv2⟩ := hq
  have hP : va_P g.1 vwCl [(h, .inr (0, [.int (nI rt), .int (nI lf), .ref pa, .ref da, .int (nI T), .int (nI P), .long (lN R0), .long xI, .long xP, .long xW, .long xG])), (pa, .inl (g.2.1, 120, .inl u)), (da, .inl (g.2.1, 121, .inl v2))] H := hP
  have hD : va_D A [(h, .inr (0, [.int (nI rt), .int (nI lf), .ref pa, .ref da, .int (nI T), .int (nI P), .long (lN R0), .long xI, .long xP, .long xW, .long xG])), (pa, .inl (g.2.1, 120, .inl u)), (da, .inl (g.2.1, 121, .inl v2))] := hD
  refine lv_lload_n hx hb dX0_giveUp_10 rfl (lv_at hl 0 rfl) ?_
  refine lv_aload_n hx hb dX0_giveUp_11 rfl (lv_at hl 1 rfl) ?_
  refine z_ai (wa := []) (wc := [(h, .inr (0, [.int (nI rt), .int (nI lf), .ref pa, .ref da, .int (nI T), .int (nI P), .long (lN R0), .long xI, .long xP, .long xW, .long xG])), (pa, .inl (g.2.1, 120, .inl u)), (da, .inl (g.2.1, 121, .inl v2))]) (wb := []) (va_runV (As := []) (rest := [.long (lN D0)]) ⟨hx, hb, hml, hown, hts⟩ (c_debtNow l g h pa da rt lf T P (lN R0) xI xP xW xG u v2 (by omega) H.size _ rfl) (cwV 0 hts gX0_giveUp_X0_debtNow rfl rfl rfl (by decide +kernel) ⟨Nat.le_of_ble_eq_true rfl, Nat.le_of_ble_eq_true rfl⟩) (zpreV (wa := []) (wc := [(h, .inr (0, [.int (nI rt), .int (nI lf), .ref pa, .ref da, .int (nI T), .int (nI P), .long (lN R0), .long xI, .long xP, .long xW, .long xG])), (pa, .inl (g.2.1, 120, .inl u)), (da, .inl (g.2.1, 121, .inl v2))]) (wb := []) (q0 := 0) (ci := 0) (T := TX0) (N := 11) hK hP hD rfl rfl) rfl rfl hl.1 rfl (lv_room (Nat.le_of_ble_eq_true rfl)) dX0_giveUp_12 ⟨Nat.le_of_ble_eq_true rfl, Nat.le_of_ble_eq_true rfl⟩) hP hD hS hA (fun r_3 w1 H locs hq hP hD hS => ?_)
  obtain ⟨rfl, rfl⟩ := hq
  have hP : va_P g.1 vwCl [(h, .inr (0, [.int (nI rt), .int (nI lf), .ref pa, .ref da, .int (nI T), .int (nI P), .long (lN R0), .long xI, .long xP, .long xW, .long xG])), (pa, .inl (g.2.1, 120, .inl u)), (da, .inl (g.2.1, 121, .inl v2))] H := hP
  have hD : va_D A [(h, .inr (0, [.int (nI rt), .int (nI lf), .ref pa, .ref da, .int (nI T), .int (nI P), .long (lN R0), .long xI, .long xP, .long xW, .long xG])), (pa, .inl (g.2.1, 120, .inl u)), (da, .inl (g.2.1, 121, .inl v2))] := hD
  refine zi (y := nI (zWr rt py T (T - P))) (hv2 P (by omega) (by omega)) ?_
  refine z_i2l hx hb dX0_giveUp_15 (by omega) ?_
  refine lv_lsub hx hb dX0_giveUp_16 ?_
  refine lv_aload_n hx hb dX0_giveUp_17 rfl (lv_at hl 1 rfl) ?_
  refine va_get (D := g.1) (ci := 0) (v := .long (lN R0)) (C := RX0) (T := TX0) (N := 11) hx hb hts hinX0 hown hK hP 0 rfl rfl 6 (by decide) (hts (.fieldLink RX0 44 "Usewise$Lease" "right" "J") (by decide +kernel)) (fun _ h9 => h9) rfl dX0_giveUp_18 ?_
  refine lv_lload_n hx hb dX0_giveUp_21 rfl (lv_at hl 2 rfl) ?_
  refine lv_lsub hx hb dX0_giveUp_22 ?_
  refine lv_lsub hx hb dX0_giveUp_23 ?_
  refine lv_lstore (lv' := [(5, .long (((lN D0) - (lN (zWr rt py T (T - P)))) - ((lN R0) - (lN R1)))), (3, .long (lN D0)), (0, .ref h), (1, .long (lN R1))]) hx hb dX0_giveUp_24 hl (by decide) rfl (fun ls hl => ?_)
  refine lv_aload_n hx hb dX0_giveUp_26 rfl (lv_at hl 2 rfl) ?_
  refine lv_lload_n hx hb dX0_giveUp_27 rfl (lv_at hl 3 rfl) ?_
  refine va_put (D := g.1) (ci := 0) (v := .long (lN R1)) (ty := .long) (C := RX0) (T := TX0) (N := 11) hx hb hts hinX0 tyX0 tyX0_ok nmX0 hown hK hP hD hS 0 rfl rfl 6 (by decide) (hts (.fieldLink RX0 44 "Usewise$Lease" "right" "J") (by decide +kernel)) (fun _ h9 => h9) rfl (by decide +kernel) rfl rfl (Nat.le_of_ble_eq_true rfl) dX0_giveUp_28 (fun H locs hP hD hS => ?_)
  have hP : va_P g.1 vwCl [(h, .inr (0, [.int (nI rt), .int (nI lf), .ref pa, .ref da, .int (nI T), .int (nI P), .long (lN R1), .long xI, .long xP, .long xW, .long xG])), (pa, .inl (g.2.1, 120, .inl u)), (da, .inl (g.2.1, 121, .inl v2))] H := hP
  have hD : va_D A [(h, .inr (0, [.int (nI rt), .int (nI lf), .ref pa, .ref da, .int (nI T), .int (nI P), .long (lN R1), .long xI, .long xP, .long xW, .long xG])), (pa, .inl (g.2.1, 120, .inl u)), (da, .inl (g.2.1, 121, .inl v2))] := hD
  refine lv_aload_n hx hb dX0_giveUp_31 rfl (lv_at hl 2 rfl) ?_
  refine lv_dup hx hb dX0_giveUp_32 rfl ?_
  refine va_get (D := g.1) (ci := 0) (v := .long xG) (C := RX0) (T := TX0) (N := 11) hx hb hts hinX0 hown hK hP 0 rfl rfl 10 (by decide) (hts (.fieldLink RX0 91 "Usewise$Lease" "gains" "J") (by decide +kernel)) (fun _ h9 => h9) rfl dX0_giveUp_33 ?_
  refine lv_lload hx hb dX0_giveUp_36 (lv_at hl 0 rfl) ?_
  refine lv_ladd hx hb dX0_giveUp_38 ?_
  refine va_put (D := g.1) (ci := 0) (v := .long (xG + (((lN D0) - (lN (zWr rt py T (T - P)))) - ((lN R0) - (lN R1))))) (ty := .long) (C := RX0) (T := TX0) (N := 11) hx hb hts hinX0 tyX0 tyX0_ok nmX0 hown hK hP hD hS 0 rfl rfl 10 (by decide) (hts (.fieldLink RX0 91 "Usewise$Lease" "gains" "J") (by decide +kernel)) (fun _ h9 => h9) rfl (by decide +kernel) rfl rfl (Nat.le_of_ble_eq_true rfl) dX0_giveUp_39 (fun H locs hP hD hS => ?_)
  have hP : va_P g.1 vwCl [(h, .inr (0, [.int (nI rt), .int (nI lf), .ref pa, .ref da, .int (nI T), .int (nI P), .long (lN R1), .long xI, .long xP, .long xW, .long (xG + (((lN D0) - (lN (zWr rt py T (T - P)))) - ((lN R0) - (lN R1))))])), (pa, .inl (g.2.1, 120, .inl u)), (da, .inl (g.2.1, 121, .inl v2))] H := hP
  have hD : va_D A [(h, .inr (0, [.int (nI rt), .int (nI lf), .ref pa, .ref da, .int (nI T), .int (nI P), .long (lN R1), .long xI, .long xP, .long xW, .long (xG + (((lN D0) - (lN (zWr rt py T (T - P)))) - ((lN R0) - (lN R1))))])), (pa, .inl (g.2.1, 120, .inl u)), (da, .inl (g.2.1, 121, .inl v2))] := hD
  refine lv_lload hx hb dX0_giveUp_42 (lv_at hl 0 rfl) ?_
  refine lv_l2i hx hb dX0_giveUp_44 rfl ?_
  exact z_iret hx hb hr hP hK hD hS dX0_giveUp_45 hlocks (⟨v2, _, rfl, hv2, by rw [z64_sub, z64_sub, z64_sub, lN_i, lN_i, lN_i, lN_i], by rw [z64_add]⟩)
end
section
/-! the class of a lease: its changes -/
theorem z_w {g : zG} {a : Nat × Nat × Nat} {rt lf : Nat} {z1 z2 : zS} {q : zRaw} (e : z1 = z2) : zLW g a rt lf z2 q = zLW g a rt lf z1 q := by rw [e]
theorem zC_of {rt : Nat} {z1 z2 : zS} {q : zRaw} (e : z1 = z2) (h : zCR rt z2 q) : zCR rt z1 q := by rw [e]; exact h
theorem zFol_lt {r T' T P R : Nat} {p' p : Nat → Nat} {I Pd W G : Int32} (h : R + zWr r p' T' (T' - P) < zWr r p T (T - P)) : zFol r T' p' (T, P, p, R, I, Pd, W, G) = (T', P, p', 0, I, Pd, W, G - (nI R + (nI (zWr r p' T' (T' - P)) - nI (zWr r p T (T - P))))) := if_pos h
theorem zFol_ge {r T' T P R : Nat} {p' p : Nat → Nat} {I Pd W G : Int32} (h : zWr r p T (T - P) ≤ R + zWr r p' T' (T' - P)) : zFol r T' p' (T, P, p, R, I, Pd, W, G) = (T', P, p', R + zWr r p' T' (T' - P) - zWr r p T (T - P), I, Pd, W, G) := if_neg (Nat.not_lt.mpr h)
theorem zMW_pos (f T P : Nat) : 0 < zMW f T P := by unfold zMW; omega
theorem zMW_le {f T P : Nat} (h : T ≤ 120) : zMW f T P ≤ 120 := by unfold zMW; omega
theorem z_min {a b : Nat} (ha : a < 2 ^ 31) (hb : b < 2 ^ 31) : (if nI b < nI a then nI b else nI a) = nI (min a b) := by
  by_cases h : b < a
  · rw [if_pos ((nI_ltI hb ha).mpr h), Nat.min_eq_right (Nat.le_of_lt h)]
  · rw [if_neg (mt (nI_ltI hb ha).mp h), Nat.min_eq_left (Nat.le_of_not_lt h)]
theorem z_max {a b : Nat} (ha : a < 2 ^ 31) (hb : b < 2 ^ 31) : (if nI a < nI b then nI b else nI a) = nI (max a b) := by
  by_cases h : a < b
  · rw [if_pos ((nI_ltI ha hb).mpr h), Nat.max_eq_right (Nat.le_of_lt h)]
  · rw [if_neg (mt (nI_ltI ha hb).mp h), Nat.max_eq_left (Nat.le_of_not_lt h)]
set_option maxHeartbeats 4000000 in
set_option maxRecDepth 100000 in
theorem c_passOneMonth (l : Launch) (g : zG) (h pa da rt lf T P R0 : Nat) (py : Nat → Nat) (I Pd Wn G : Int32) (xI xP xW xG : Int64) (u v : Nat → Int32) (hZ : zInv rt lf (T, P, py, R0, I, Pd, Wn, G)) (hC : zCR rt (T, P, py, R0, I, Pd, Wn, G) (xI, xP, xW, xG, u, v)) (hPl : P < T) : zMv l yX0_passOneMonth wsX0_passOneMonth ({ frames := 2, cells := 0, slots := 0, locals := 41 } : Room) [.ref h] g [(h, .inr (0, [.int (nI rt), .int (nI lf), .ref pa, .ref da, .int (nI T), .int (nI P), .long (lN R0), .long xI, .long xP, .long xW, .long xG])), (pa, .inl (g.2.1, 120, .inl u)), (da, .inl (g.2.1, 121, .inl v))] (fun w => ∃ q', w = zLW g (h, pa, da) rt lf (zMonth rt lf (T, P, py, R0, I, Pd, Wn, G)) q' ∧ zCR rt (zMonth rt lf (T, P, py, R0, I, Pd, Wn, G)) q') 0 0 := by
  intro sz A hAe
  refine Met.ofW (cc := cX0_passOneMonth) (maxL := 4) (ret := none) (by decide) rfl ?_
  intro p e s m args below meth c s₁ B hml hv
  obtain ⟨rfl, hsz, hP, hK, hD0⟩ := hv
  have hx := B.exec
  have hb := B.bytes
  have hr := B.returns
  have hts := atoms_spec (ws := wsX0_passOneMonth) B.pre
  have hown : s.vm.findClass RX0 = some m.cls := findClass_of_methodNamed B.named
  have hlocks := B.notSynchronized
  obtain ⟨hD, hA, hS⟩ := z_in hsz hAe hD0
  have hl := lv_entry ([.ref h]) (n := 4) (Nat.le_of_ble_eq_true rfl)
  rw [lg_entry_eq]
  generalize (lg_sl ([.ref h]) ++ List.replicate (4 - (lg_sl ([.ref h])).length) Slot.unset).toArray = ls at hl ⊢
  have hl : lv_has ls 4 [(0, .ref h)] := hl
  have hinX0 : ∀ w ∈ wsX00, w ∈ wsX0_passOneMonth := by decide +kernel
  obtain ⟨hT, hPT, hrt, hlf, hp, hRb⟩ := id hZ
  obtain ⟨hI, hPd, hWn, hG, hu, hv⟩ := id hC
  have hD0 := z_wb (r := rt) (j := P) hT hp (Nat.le_refl P)
  have hR2 := zInv_R hZ
  have hm1 := zMW_pos lf T P
  have hm2 := zMW_le (f := lf) (P := P) hT
  refine lv_aload_n hx hb dX0_passOneMonth_0 rfl (lv_at hl 0 rfl) ?_
  refine va_get (D := g.1) (ci := 0) (v := .ref pa) (C := RX0) (T := TX0) (N := 11) hx hb hts hinX0 hown hK hP 0 rfl rfl 2 (by decide) (hts (.fieldLink RX0 30 "Usewise$Lease" "payments" "[I") (by decide +kernel)) (fun _ h9 => h9) rfl dX0_passOneMonth_1 ?_
  refine lv_aload_n hx hb dX0_passOneMonth_4 rfl (lv_at hl 0 rfl) ?_
  refine va_get (D := g.1) (ci := 0) (v := .int (nI P)) (C := RX0) (T := TX0) (N := 11) hx hb hts hinX0 hown hK hP 0 rfl rfl 5 (by decide) (hts (.fieldLink RX0 48 "Usewise$Lease" "past" "I") (by decide +kernel)) (fun _ h9 => h9) rfl dX0_passOneMonth_5 ?_
  refine z_iald hx hb hK hP 1 0 rfl rfl (by omega) (by decide) dX0_passOneMonth_8 ?_
  refine zi (y := nI (py P)) (hu P (by omega) (by omega)) ?_
  refine lv_istore_n (lv' := [(1, .int (nI (py P))), (0, .ref h)]) hx hb dX0_passOneMonth_9 rfl hl (by decide) rfl (fun ls hl => ?_)
  refine lv_aload_n hx hb dX0_passOneMonth_10 rfl (lv_at hl 1 rfl) ?_
  refine lv_dup hx hb dX0_passOneMonth_11 rfl ?_
  refine va_get (D := g.1) (ci := 0) (v := .long xI) (C := RX0) (T := TX0) (N := 11) hx hb hts hinX0 hown hK hP 0 rfl rfl 7 (by decide) (hts (.fieldLink RX0 63 "Usewise$Lease" "interest" "J") (by decide +kernel)) (fun _ h9 => h9) rfl dX0_passOneMonth_12 ?_
  refine lv_aload_n hx hb dX0_passOneMonth_15 rfl (lv_at hl 1 rfl) ?_
  refine va_get (D := g.1) (ci := 0) (v := .ref da) (C := RX0) (T := TX0) (N := 11) hx hb hts hinX0 hown hK hP 0 rfl rfl 3 (by decide) (hts (.fieldLink RX0 34 "Usewise$Lease" "debts" "[I") (by decide +kernel)) (fun _ h9 => h9) rfl dX0_passOneMonth_16 ?_
  refine lv_aload_n hx hb dX0_passOneMonth_19 rfl (lv_at hl 1 rfl) ?_
  refine va_get (D := g.1) (ci := 0) (v := .int (nI P)) (C := RX0) (T := TX0) (N := 11) hx hb hts hinX0 hown hK hP 0 rfl rfl 5 (by decide) (hts (.fieldLink RX0 48 "Usewise$Lease" "past" "I") (by decide +kernel)) (fun _ h9 => h9) rfl dX0_passOneMonth_20 ?_
  refine lv_iconst (v := nI 1) hx hb dX0_passOneMonth_23 (by decide) ?_
  refine z_iadd hx hb dX0_passOneMonth_24 ?_
  refine z_iald hx hb hK hP 2 0 rfl rfl (by omega) (by decide) dX0_passOneMonth_25 ?_
  refine zi (y := nI (zWr rt py T (T - (P + 1)))) (hv (P + 1) (by omega) (by omega)) ?_
  refine lv_iload_n hx hb dX0_passOneMonth_26 rfl (lv_at hl 0 rfl) ?_
  refine z_iadd hx hb dX0_passOneMonth_27 ?_
  refine lv_aload_n hx hb dX0_passOneMonth_28 rfl (lv_at hl 1 rfl) ?_
  refine va_get (D := g.1) (ci := 0) (v := .ref da) (C := RX0) (T := TX0) (N := 11) hx hb hts hinX0 hown hK hP 0 rfl rfl 3 (by decide) (hts (.fieldLink RX0 34 "Usewise$Lease" "debts" "[I") (by decide +kernel)) (fun _ h9 => h9) rfl dX0_passOneMonth_29 ?_
  refine lv_aload_n hx hb dX0_passOneMonth_32 rfl (lv_at hl 1 rfl) ?_
  refine va_get (D := g.1) (ci := 0) (v := .int (nI P)) (C := RX0) (T := TX0) (N := 11) hx hb hts hinX0 hown hK hP 0 rfl rfl 5 (by decide) (hts (.fieldLink RX0 48 "Usewise$Lease" "past" "I") (by decide +kernel)) (fun _ h9 => h9) rfl dX0_passOneMonth_33 ?_
  refine z_iald hx hb hK hP 2 0 rfl rfl (by omega) (by decide) dX0_passOneMonth_36 ?_
  refine zi (y := nI (zWr rt py T (T - P))) (hv P (by omega) (by omega)) ?_
  refine lv_isub hx hb dX0_passOneMonth_37 ?_
  refine lv_i2l hx hb dX0_passOneMonth_38 rfl ?_
  refine lv_ladd hx hb dX0_passOneMonth_39 ?_
  refine va_put (D := g.1) (ci := 0) (v := .long (xI + (((nI (zWr rt py T (T - (P + 1)) + (py P))) - (nI (zWr rt py T (T - P)))).toInt64))) (ty := .long) (C := RX0) (T := TX0) (N := 11) hx hb hts hinX0 tyX0 tyX0_ok nmX0 hown hK hP hD hS 0 rfl rfl 7 (by decide) (hts (.fieldLink RX0 63 "Usewise$Lease" "interest" "J") (by decide +kernel)) (fun _ h9 => h9) rfl (by decide +kernel) rfl rfl (Nat.le_of_ble_eq_true rfl) dX0_passOneMonth_40 (fun H locs hP hD hS => ?_)
  have hP : va_P g.1 vwCl [(h, .inr (0, [.int (nI rt), .int (nI lf), .ref pa, .ref da, .int (nI T), .int (nI P), .long (lN R0), .long (xI + (((nI (zWr rt py T (T - (P + 1)) + (py P))) - (nI (zWr rt py T (T - P)))).toInt64)), .long xP, .long xW, .long xG])), (pa, .inl (g.2.1, 120, .inl u)), (da, .inl (g.2.1, 121, .inl v))] H := hP
  have hD : va_D A [(h, .inr (0, [.int (nI rt), .int (nI lf), .ref pa, .ref da, .int (nI T), .int (nI P), .long (lN R0), .long (xI + (((nI (zWr rt py T (T - (P + 1)) + (py P))) - (nI (zWr rt py T (T - P)))).toInt64)), .long xP, .long xW, .long xG])), (pa, .inl (g.2.1, 120, .inl u)), (da, .inl (g.2.1, 121, .inl v))] := hD
  refine lv_aload_n hx hb dX0_passOneMonth_43 rfl (lv_at hl 1 rfl) ?_
  refine lv_dup hx hb dX0_passOneMonth_44 rfl ?_
  refine va_get (D := g.1) (ci := 0) (v := .long xP) (C := RX0) (T := TX0) (N := 11) hx hb hts hinX0 hown hK hP 0 rfl rfl 8 (by decide) (hts (.fieldLink RX0 66 "Usewise$Lease" "paid" "J") (by decide +kernel)) (fun _ h9 => h9) rfl dX0_passOneMonth_45 ?_
  have hpP := hp P (by omega) (by omega)
  refine lv_iload_n hx hb dX0_passOneMonth_48 rfl (lv_at hl 0 rfl) ?_
  refine z_i2l hx hb dX0_passOneMonth_49 (by omega) ?_
  refine lv_ladd hx hb dX0_passOneMonth_50 ?_
  refine va_put (D := g.1) (ci := 0) (v := .long (xP + (lN (py P)))) (ty := .long) (C := RX0) (T := TX0) (N := 11) hx hb hts hinX0 tyX0 tyX0_ok nmX0 hown hK hP hD hS 0 rfl rfl 8 (by decide) (hts (.fieldLink RX0 66 "Usewise$Lease" "paid" "J") (by decide +kernel)) (fun _ h9 => h9) rfl (by decide +kernel) rfl rfl (Nat.le_of_ble_eq_true rfl) dX0_passOneMonth_51 (fun H locs hP hD hS => ?_)
  have hP : va_P g.1 vwCl [(h, .inr (0, [.int (nI rt), .int (nI lf), .ref pa, .ref da, .int (nI T), .int (nI P), .long (lN R0), .long (xI + (((nI (zWr rt py T (T - (P + 1)) + (py P))) - (nI (zWr rt py T (T - P)))).toInt64)), .long (xP + (lN (py P))), .long xW, .long xG])), (pa, .inl (g.2.1, 120, .inl u)), (da, .inl (g.2.1, 121, .inl v))] H := hP
  have hD : va_D A [(h, .inr (0, [.int (nI rt), .int (nI lf), .ref pa, .ref da, .int (nI T), .int (nI P), .long (lN R0), .long (xI + (((nI (zWr rt py T (T - (P + 1)) + (py P))) - (nI (zWr rt py T (T - P)))).toInt64)), .long (xP + (lN (py P))), .long xW, .long xG])), (pa, .inl (g.2.1, 120, .inl u)), (da, .inl (g.2.1, 121, .inl v))] := hD
  refine lv_aload_n hx hb dX0_passOneMonth_54 rfl (lv_at hl 1 rfl) ?_
  refine va_get (D := g.1) (ci := 0) (v := .long (lN R0)) (C := RX0) (T := TX0) (N := 11) hx hb hts hinX0 hown hK hP 0 rfl rfl 6 (by decide) (hts (.fieldLink RX0 44 "Usewise$Lease" "right" "J") (by decide +kernel)) (fun _ h9 => h9) rfl dX0_passOneMonth_55 ?_
  refine lv_aload_n hx hb dX0_passOneMonth_58 rfl (lv_at hl 1 rfl) ?_
  refine z_ai (wa := []) (wc := [(h, .inr (0, [.int (nI rt), .int (nI lf), .ref pa, .ref da, .int (nI T), .int (nI P), .long (lN R0), .long (xI + (((nI (zWr rt py T (T - (P + 1)) + (py P))) - (nI (zWr rt py T (T - P)))).toInt64)), .long (xP + (lN (py P))), .long xW, .long xG])), (pa, .inl (g.2.1, 120, .inl u)), (da, .inl (g.2.1, 121, .inl v))]) (wb := []) (va_runV (As := []) (rest := [.long (lN R0)]) ⟨hx, hb, hml, hown, hts⟩ (c_monthsToWriteOver l g h pa da rt lf T P (lN R0) (xI + (((nI (zWr rt py T (T - (P + 1)) + (py P))) - (nI (zWr rt py T (T - P)))).toInt64)) (xP + (lN (py P))) xW xG u v (by omega) hT hlf H.size _ rfl) (cwV 0 hts gX0_passOneMonth_X0_monthsToWriteOver rfl rfl rfl (by decide +kernel) ⟨Nat.le_of_ble_eq_true rfl, Nat.le_of_ble_eq_true rfl⟩) (zpreV (wa := []) (wc := [(h, .inr (0, [.int (nI rt), .int (nI lf), .ref pa, .ref da, .int (nI T), .int (nI P), .long (lN R0), .long (xI + (((nI (zWr rt py T (T - (P + 1)) + (py P))) - (nI (zWr rt py T (T - P)))).toInt64)), .long (xP + (lN (py P))), .long xW, .long xG])), (pa, .inl (g.2.1, 120, .inl u)), (da, .inl (g.2.1, 121, .inl v))]) (wb := []) (q0 := 0) (ci := 0) (T := TX0) (N := 11) hK hP hD rfl rfl) rfl rfl hl.1 rfl (lv_room (Nat.le_of_ble_eq_true rfl)) dX0_passOneMonth_59 ⟨Nat.le_of_ble_eq_true rfl, Nat.le_of_ble_eq_true rfl⟩) hP hD hS hA (fun r_1 w1 H locs hq hP hD hS => ?_)
  obtain ⟨rfl, rfl⟩ := hq
  have hP : va_P g.1 vwCl [(h, .inr (0, [.int (nI rt), .int (nI lf), .ref pa, .ref da, .int (nI T), .int (nI P), .long (lN R0), .long (xI + (((nI (zWr rt py T (T - (P + 1)) + (py P))) - (nI (zWr rt py T (T - P)))).toInt64)), .long (xP + (lN (py P))), .long xW, .long xG])), (pa, .inl (g.2.1, 120, .inl u)), (da, .inl (g.2.1, 121, .inl v))] H := hP
  have hD : va_D A [(h, .inr (0, [.int (nI rt), .int (nI lf), .ref pa, .ref da, .int (nI T), .int (nI P), .long (lN R0), .long (xI + (((nI (zWr rt py T (T - (P + 1)) + (py P))) - (nI (zWr rt py T (T - P)))).toInt64)), .long (xP + (lN (py P))), .long xW, .long xG])), (pa, .inl (g.2.1, 120, .inl u)), (da, .inl (g.2.1, 121, .inl v))] := hD
  refine z_i2l hx hb dX0_passOneMonth_62 (by omega) ?_
  refine z_ldiv hx hb dX0_passOneMonth_63 (by omega) hm1 (by omega) ?_
  refine lv_lstore_n (lv' := [(2, .long (lN (R0 / (zMW lf T P)))), (1, .int (nI (py P))), (0, .ref h)]) hx hb dX0_passOneMonth_64 rfl hl (by decide) rfl (fun ls hl => ?_)
  refine lv_aload_n hx hb dX0_passOneMonth_65 rfl (lv_at hl 2 rfl) ?_
  refine lv_dup hx hb dX0_passOneMonth_66 rfl ?_
  refine va_get (D := g.1) (ci := 0) (v := .long xW) (C := RX0) (T := TX0) (N := 11) hx hb hts hinX0 hown hK hP 0 rfl rfl 9 (by decide) (hts (.fieldLink RX0 72 "Usewise$Lease" "written" "J") (by decide +kernel)) (fun _ h9 => h9) rfl dX0_passOneMonth_67 ?_
  refine lv_lload_n hx hb dX0_passOneMonth_70 rfl (lv_at hl 0 rfl) ?_
  refine lv_ladd hx hb dX0_passOneMonth_71 ?_
  refine va_put (D := g.1) (ci := 0) (v := .long (xW + (lN (R0 / (zMW lf T P))))) (ty := .long) (C := RX0) (T := TX0) (N := 11) hx hb hts hinX0 tyX0 tyX0_ok nmX0 hown hK hP hD hS 0 rfl rfl 9 (by decide) (hts (.fieldLink RX0 72 "Usewise$Lease" "written" "J") (by decide +kernel)) (fun _ h9 => h9) rfl (by decide +kernel) rfl rfl (Nat.le_of_ble_eq_true rfl) dX0_passOneMonth_72 (fun H locs hP hD hS => ?_)
  have hP : va_P g.1 vwCl [(h, .inr (0, [.int (nI rt), .int (nI lf), .ref pa, .ref da, .int (nI T), .int (nI P), .long (lN R0), .long (xI + (((nI (zWr rt py T (T - (P + 1)) + (py P))) - (nI (zWr rt py T (T - P)))).toInt64)), .long (xP + (lN (py P))), .long (xW + (lN (R0 / (zMW lf T P)))), .long xG])), (pa, .inl (g.2.1, 120, .inl u)), (da, .inl (g.2.1, 121, .inl v))] H := hP
  have hD : va_D A [(h, .inr (0, [.int (nI rt), .int (nI lf), .ref pa, .ref da, .int (nI T), .int (nI P), .long (lN R0), .long (xI + (((nI (zWr rt py T (T - (P + 1)) + (py P))) - (nI (zWr rt py T (T - P)))).toInt64)), .long (xP + (lN (py P))), .long (xW + (lN (R0 / (zMW lf T P)))), .long xG])), (pa, .inl (g.2.1, 120, .inl u)), (da, .inl (g.2.1, 121, .inl v))] := hD
  refine lv_aload_n hx hb dX0_passOneMonth_75 rfl (lv_at hl 2 rfl) ?_
  refine lv_dup hx hb dX0_passOneMonth_76 rfl ?_
  refine va_get (D := g.1) (ci := 0) (v := .long (lN R0)) (C := RX0) (T := TX0) (N := 11) hx hb hts hinX0 hown hK hP 0 rfl rfl 6 (by decide) (hts (.fieldLink RX0 44 "Usewise$Lease" "right" "J") (by decide +kernel)) (fun _ h9 => h9) rfl dX0_passOneMonth_77 ?_
  refine lv_lload_n hx hb dX0_passOneMonth_80 rfl (lv_at hl 0 rfl) ?_
  refine z_lsub hx hb dX0_passOneMonth_81 (Nat.div_le_self _ _) ?_
  refine va_put (D := g.1) (ci := 0) (v := .long (lN (R0 - (R0 / (zMW lf T P))))) (ty := .long) (C := RX0) (T := TX0) (N := 11) hx hb hts hinX0 tyX0 tyX0_ok nmX0 hown hK hP hD hS 0 rfl rfl 6 (by decide) (hts (.fieldLink RX0 44 "Usewise$Lease" "right" "J") (by decide +kernel)) (fun _ h9 => h9) rfl (by decide +kernel) rfl rfl (Nat.le_of_ble_eq_true rfl) dX0_passOneMonth_82 (fun H locs hP hD hS => ?_)
  have hP : va_P g.1 vwCl [(h, .inr (0, [.int (nI rt), .int (nI lf), .ref pa, .ref da, .int (nI T), .int (nI P), .long (lN (R0 - (R0 / (zMW lf T P)))), .long (xI + (((nI (zWr rt py T (T - (P + 1)) + (py P))) - (nI (zWr rt py T (T - P)))).toInt64)), .long (xP + (lN (py P))), .long (xW + (lN (R0 / (zMW lf T P)))), .long xG])), (pa, .inl (g.2.1, 120, .inl u)), (da, .inl (g.2.1, 121, .inl v))] H := hP
  have hD : va_D A [(h, .inr (0, [.int (nI rt), .int (nI lf), .ref pa, .ref da, .int (nI T), .int (nI P), .long (lN (R0 - (R0 / (zMW lf T P)))), .long (xI + (((nI (zWr rt py T (T - (P + 1)) + (py P))) - (nI (zWr rt py T (T - P)))).toInt64)), .long (xP + (lN (py P))), .long (xW + (lN (R0 / (zMW lf T P)))), .long xG])), (pa, .inl (g.2.1, 120, .inl u)), (da, .inl (g.2.1, 121, .inl v))] := hD
  refine lv_aload_n hx hb dX0_passOneMonth_85 rfl (lv_at hl 2 rfl) ?_
  refine lv_dup hx hb dX0_passOneMonth_86 rfl ?_
  refine va_get (D := g.1) (ci := 0) (v := .int (nI P)) (C := RX0) (T := TX0) (N := 11) hx hb hts hinX0 hown hK hP 0 rfl rfl 5 (by decide) (hts (.fieldLink RX0 48 "Usewise$Lease" "past" "I") (by decide +kernel)) (fun _ h9 => h9) rfl dX0_passOneMonth_87 ?_
  refine lv_iconst (v := nI 1) hx hb dX0_passOneMonth_90 (by decide) ?_
  refine z_iadd hx hb dX0_passOneMonth_91 ?_
  refine va_put (D := g.1) (ci := 0) (v := .int (nI (P + 1))) (ty := .int) (C := RX0) (T := TX0) (N := 11) hx hb hts hinX0 tyX0 tyX0_ok nmX0 hown hK hP hD hS 0 rfl rfl 5 (by decide) (hts (.fieldLink RX0 48 "Usewise$Lease" "past" "I") (by decide +kernel)) (fun _ h9 => h9) rfl (by decide +kernel) rfl rfl (Nat.le_of_ble_eq_true rfl) dX0_passOneMonth_92 (fun H locs hP hD hS => ?_)
  have hP : va_P g.1 vwCl [(h, .inr (0, [.int (nI rt), .int (nI lf), .ref pa, .ref da, .int (nI T), .int (nI (P + 1)), .long (lN (R0 - (R0 / (zMW lf T P)))), .long (xI + (((nI (zWr rt py T (T - (P + 1)) + (py P))) - (nI (zWr rt py T (T - P)))).toInt64)), .long (xP + (lN (py P))), .long (xW + (lN (R0 / (zMW lf T P)))), .long xG])), (pa, .inl (g.2.1, 120, .inl u)), (da, .inl (g.2.1, 121, .inl v))] H := hP
  have hD : va_D A [(h, .inr (0, [.int (nI rt), .int (nI lf), .ref pa, .ref da, .int (nI T), .int (nI (P + 1)), .long (lN (R0 - (R0 / (zMW lf T P)))), .long (xI + (((nI (zWr rt py T (T - (P + 1)) + (py P))) - (nI (zWr rt py T (T - P)))).toInt64)), .long (xP + (lN (py P))), .long (xW + (lN (R0 / (zMW lf T P)))), .long xG])), (pa, .inl (g.2.1, 120, .inl u)), (da, .inl (g.2.1, 121, .inl v))] := hD
  exact z_vret hx hb hr hP hK hD hS dX0_passOneMonth_95 hlocks (⟨(_, _, _, _, _, _), rfl, by rw [z64_add, z32_64, hI, ← nI_add], by rw [z64_add, lN_i, hPd], by rw [z64_add, lN_i, hWn], hG, fun j h1 h2 => hu j (by omega) h2, fun j h1 h2 => hv j (by omega) h2⟩)

set_option maxHeartbeats 4000000 in
set_option maxRecDepth 100000 in
theorem c_endsWithin (l : Launch) (g : zG) (h pa da rt lf T P R0 : Nat) (py : Nat → Nat) (I Pd Wn G : Int32) (xI xP xW xG : Int64) (u v : Nat → Int32) (k0 : Nat) (hZ : zInv rt lf (T, P, py, R0, I, Pd, Wn, G)) (hC : zCR rt (T, P, py, R0, I, Pd, Wn, G) (xI, xP, xW, xG, u, v)) (hk0 : 1 ≤ k0 ∧ k0 ≤ 24) : zMi l yX0_endsWithin wsX0_endsWithin ({ frames := 3, cells := 0, slots := 0, locals := 70 } : Room) [.ref h, .int (nI k0)] g [(h, .inr (0, [.int (nI rt), .int (nI lf), .ref pa, .ref da, .int (nI T), .int (nI P), .long (lN R0), .long xI, .long xP, .long xW, .long xG])), (pa, .inl (g.2.1, 120, .inl u)), (da, .inl (g.2.1, 121, .inl v))] (fun q w => (∃ q', w = zLW g (h, pa, da) rt lf (zIt rt lf (min k0 (T - P)) (T, P, py, R0, I, Pd, Wn, G)) q' ∧ zCR rt (zIt rt lf (min k0 (T - P)) (T, P, py, R0, I, Pd, Wn, G)) q') ∧ ((0 < T - P ∧ T - P ≤ k0 ∧ q = nI 1) ∨ (¬ (0 < T - P ∧ T - P ≤ k0) ∧ q = nI 0))) 0 0 := by
  intro sz A hAe
  refine Met.ofW (cc := cX0_endsWithin) (maxL := 4) (ret := some .boolean) (by decide) rfl ?_
  intro p e s m args below meth c s₁ B hml hv
  obtain ⟨rfl, hsz, hP, hK, hD0⟩ := hv
  have hx := B.exec
  have hb := B.bytes
  have hr := B.returns
  have hts := atoms_spec (ws := wsX0_endsWithin) B.pre
  have hown : s.vm.findClass RX0 = some m.cls := findClass_of_methodNamed B.named
  have hlocks := B.notSynchronized
  obtain ⟨hD, hA, hS⟩ := z_in hsz hAe hD0
  have hl := lv_entry ([.ref h, .int (nI k0)]) (n := 4) (Nat.le_of_ble_eq_true rfl)
  rw [lg_entry_eq]
  generalize (lg_sl ([.ref h, .int (nI k0)]) ++ List.replicate (4 - (lg_sl ([.ref h, .int (nI k0)])).length) Slot.unset).toArray = ls at hl ⊢
  have hl : lv_has ls 4 [(0, .ref h), (1, .int (nI k0))] := hl
  have hinX0 : ∀ w ∈ wsX00, w ∈ wsX0_endsWithin := by decide +kernel
  obtain ⟨hT, hPT, hrt, hlf, hp, hRb⟩ := id hZ
  obtain ⟨hI, hPd, hWn, hG, hu, hv⟩ := id hC
  have hD0 := z_wb (r := rt) (j := P) hT hp (Nat.le_refl P)
  have hR2 := zInv_R hZ
  refine lv_iload_n hx hb dX0_endsWithin_0 rfl (lv_at hl 1 rfl) ?_
  refine lv_aload_n hx hb dX0_endsWithin_1 rfl (lv_at hl 0 rfl) ?_
  refine z_ai (wa := []) (wc := [(h, .inr (0, [.int (nI rt), .int (nI lf), .ref pa, .ref da, .int (nI T), .int (nI P), .long (lN R0), .long xI, .long xP, .long xW, .long xG])), (pa, .inl (g.2.1, 120, .inl u)), (da, .inl (g.2.1, 121, .inl v))]) (wb := []) (va_runV (As := []) (rest := [.int (nI k0)]) ⟨hx, hb, hml, hown, hts⟩ (c_monthsLeft l g h pa da rt lf T P (lN R0) xI xP xW xG u v hPT s.heap.size _ rfl) (cwV 0 hts gX0_endsWithin_X0_monthsLeft rfl rfl rfl (by decide +kernel) ⟨Nat.le_of_ble_eq_true rfl, Nat.le_of_ble_eq_true rfl⟩) (zpreV (wa := []) (wc := [(h, .inr (0, [.int (nI rt), .int (nI lf), .ref pa, .ref da, .int (nI T), .int (nI P), .long (lN R0), .long xI, .long xP, .long xW, .long xG])), (pa, .inl (g.2.1, 120, .inl u)), (da, .inl (g.2.1, 121, .inl v))]) (wb := []) (q0 := 0) (ci := 0) (T := TX0) (N := 11) hK hP hD rfl rfl) rfl rfl hl.1 rfl (lv_room (Nat.le_of_ble_eq_true rfl)) dX0_endsWithin_2 ⟨Nat.le_of_ble_eq_true rfl, Nat.le_of_ble_eq_true rfl⟩) hP hD hS hA (fun r_1 w1 H locs hq hP hD hS => ?_)
  obtain ⟨rfl, rfl⟩ := hq
  have hP : va_P g.1 vwCl [(h, .inr (0, [.int (nI rt), .int (nI lf), .ref pa, .ref da, .int (nI T), .int (nI P), .long (lN R0), .long xI, .long xP, .long xW, .long xG])), (pa, .inl (g.2.1, 120, .inl u)), (da, .inl (g.2.1, 121, .inl v))] H := hP
  have hD : va_D A [(h, .inr (0, [.int (nI rt), .int (nI lf), .ref pa, .ref da, .int (nI T), .int (nI P), .long (lN R0), .long xI, .long xP, .long xW, .long xG])), (pa, .inl (g.2.1, 120, .inl u)), (da, .inl (g.2.1, 121, .inl v))] := hD
  refine va_mmin hx hb (hml.trans hl.1.symm) hown (hts (.methodLink RX0 18 Lib.Math.min.name) (by decide +kernel)) (hts (.static Lib.Math.min.name) (by decide +kernel)) (hts (.initialized "java/lang/Math") (by decide +kernel)) (hts (.code Lib.Math.min.name Lib.Math.min.code 2 (some .int)) (by decide +kernel)) (Nat.le_of_ble_eq_true rfl) (Nat.le_of_ble_eq_true rfl) (Nat.le_of_ble_eq_true rfl) (Nat.le_of_ble_eq_true rfl) dX0_endsWithin_5 ?_
  refine zi (y := nI (min k0 (T - P))) (z_min (by omega) (by omega)) ?_
  refine lv_istore_n (lv' := [(2, .int (nI (min k0 (T - P)))), (0, .ref h), (1, .int (nI k0))]) hx hb dX0_endsWithin_8 rfl hl (by decide) rfl (fun ls hl => ?_)
  refine lv_iconst (v := nI 0) hx hb dX0_endsWithin_9 (by decide) ?_
  refine lv_istore_n (lv' := [(3, .int (nI 0)), (2, .int (nI (min k0 (T - P)))), (0, .ref h), (1, .int (nI k0))]) hx hb dX0_endsWithin_10 rfl hl (by decide) rfl (fun ls hl => ?_)
  have loop : ∀ (n : Nat) (i : Nat) (P' R' : Nat) (py' : Nat → Nat) (I' Pd' Wn' G' : Int32) (yI yP yW yG : Int64) (u2 v2 : Nat → Int32) (H : Heap) (locs : List Loc) (ls : Array Slot), min k0 (T - P) < i + n → i ≤ min k0 (T - P) → zIt rt lf i (T, P, py, R0, I, Pd, Wn, G) = (T, P', py', R', I', Pd', Wn', G') → zInv rt lf (T, P', py', R', I', Pd', Wn', G') → zCR rt (T, P', py', R', I', Pd', Wn', G') (yI, yP, yW, yG, u2, v2) → va_P g.1 vwCl [(h, .inr (0, [.int (nI rt), .int (nI lf), .ref pa, .ref da, .int (nI T), .int (nI P'), .long (lN R'), .long yI, .long yP, .long yW, .long yG])), (pa, .inl (g.2.1, 120, .inl u2)), (da, .inl (g.2.1, 121, .inl v2))] H → va_D A [(h, .inr (0, [.int (nI rt), .int (nI lf), .ref pa, .ref da, .int (nI T), .int (nI P'), .long (lN R'), .long yI, .long yP, .long yW, .long yG])), (pa, .inl (g.2.1, 120, .inl u2)), (da, .inl (g.2.1, 121, .inl v2))] → va_S A s.heap H locs → lv_has ls 4 [(3, .int (nI i)), (2, .int (nI (min k0 (T - P)))), (0, .ref h), (1, .int (nI k0))] → W p l e (headSpec wsX0_endsWithin ({ frames := 3, cells := 0, slots := 0, locals := 70 } : Room)).room s m ([.ref h, .int (nI k0)] : List Value).toArray below meth c H locs 0 0 (MQ below (va_Qi (fun q w => (∃ q', w = zLW g (h, pa, da) rt lf (zIt rt lf (min k0 (T - P)) (T, P, py, R0, I, Pd, Wn, G)) q' ∧ zCR rt (zIt rt lf (min k0 (T - P)) (T, P, py, R0, I, Pd, Wn, G)) q') ∧ ((0 < T - P ∧ T - P ≤ k0 ∧ q = nI 1) ∨ (¬ (0 < T - P ∧ T - P ≤ k0) ∧ q = nI 0))) (zOut g A) A) ([.ref h, .int (nI k0)] : List Value).toArray s 0 0 A) (F0 m 11 ls []) := by
    intro n
    induction n with
    | zero =>
      intro i P' R' py' I' Pd' Wn' G' yI yP yW yG u2 v2 H locs ls hn hi hz hZ2 hC2 hP hD hS hl
      omega
    | succ n ih =>
      intro i P' R' py' I' Pd' Wn' G' yI yP yW yG u2 v2 H locs ls hn hi hz hZ2 hC2 hP hD hS hl
      refine lv_iload_n hx hb dX0_endsWithin_11 rfl (lv_at hl 0 rfl) ?_
      refine lv_iload_n hx hb dX0_endsWithin_12 rfl (lv_at hl 1 rfl) ?_
      refine z_icmp_ge (tgt := 26) hx hb dX0_endsWithin_13 (by decide) (by omega) (by omega) (fun hc => ?_) (fun hc => ?_)
      · obtain rfl : i = min k0 (T - P) := by omega
        have hP' : P' = P + min k0 (T - P) := by have z := zIt_P rt lf (T, P, py, R0, I, Pd, Wn, G) (min k0 (T - P)); rw [hz] at z; exact z
        obtain ⟨hT2, hPT2, -, -, -, -⟩ := id hZ2
        refine lv_iload_n hx hb dX0_endsWithin_26 rfl (lv_at hl 1 rfl) ?_
        refine z_if_le (tgt := 41) hx hb dX0_endsWithin_27 (by decide) (by omega) (fun hd => ?_) (fun hd => ?_)
        · refine lv_iconst (v := nI 0) hx hb dX0_endsWithin_41 (by decide) ?_
          exact z_zret hx hb hr (by decide) hP hK hD hS dX0_endsWithin_42 hlocks (⟨⟨(yI, yP, yW, yG, u2, v2), z_w (g := g) (a := (h, pa, da)) (rt := rt) (lf := lf) (q := (yI, yP, yW, yG, u2, v2)) hz, zC_of hz hC2⟩, Or.inr ⟨by omega, rfl⟩⟩)
        · refine lv_aload_n hx hb dX0_endsWithin_30 rfl (lv_at hl 2 rfl) ?_
          refine z_ai (wa := []) (wc := [(h, .inr (0, [.int (nI rt), .int (nI lf), .ref pa, .ref da, .int (nI T), .int (nI P'), .long (lN R'), .long yI, .long yP, .long yW, .long yG])), (pa, .inl (g.2.1, 120, .inl u2)), (da, .inl (g.2.1, 121, .inl v2))]) (wb := []) (va_runV (As := []) (rest := []) ⟨hx, hb, hml, hown, hts⟩ (c_monthsLeft l g h pa da rt lf T P' (lN R') yI yP yW yG u2 v2 hPT2 H.size _ rfl) (cwV 0 hts gX0_endsWithin_X0_monthsLeft rfl rfl rfl (by decide +kernel) ⟨Nat.le_of_ble_eq_true rfl, Nat.le_of_ble_eq_true rfl⟩) (zpreV (wa := []) (wc := [(h, .inr (0, [.int (nI rt), .int (nI lf), .ref pa, .ref da, .int (nI T), .int (nI P'), .long (lN R'), .long yI, .long yP, .long yW, .long yG])), (pa, .inl (g.2.1, 120, .inl u2)), (da, .inl (g.2.1, 121, .inl v2))]) (wb := []) (q0 := 0) (ci := 0) (T := TX0) (N := 11) hK hP hD rfl rfl) rfl rfl hl.1 rfl (lv_room (Nat.le_of_ble_eq_true rfl)) dX0_endsWithin_31 ⟨Nat.le_of_ble_eq_true rfl, Nat.le_of_ble_eq_true rfl⟩) hP hD hS hA (fun r_2 w1 H locs hq hP hD hS => ?_)
          obtain ⟨rfl, rfl⟩ := hq
          have hP : va_P g.1 vwCl [(h, .inr (0, [.int (nI rt), .int (nI lf), .ref pa, .ref da, .int (nI T), .int (nI P'), .long (lN R'), .long yI, .long yP, .long yW, .long yG])), (pa, .inl (g.2.1, 120, .inl u2)), (da, .inl (g.2.1, 121, .inl v2))] H := hP
          have hD : va_D A [(h, .inr (0, [.int (nI rt), .int (nI lf), .ref pa, .ref da, .int (nI T), .int (nI P'), .long (lN R'), .long yI, .long yP, .long yW, .long yG])), (pa, .inl (g.2.1, 120, .inl u2)), (da, .inl (g.2.1, 121, .inl v2))] := hD
          refine z_if_ne (tgt := 41) hx hb dX0_endsWithin_34 (by decide) (by omega) (fun he => ?_) (fun he => ?_)
          · refine lv_iconst (v := nI 0) hx hb dX0_endsWithin_41 (by decide) ?_
            exact z_zret hx hb hr (by decide) hP hK hD hS dX0_endsWithin_42 hlocks (⟨⟨(yI, yP, yW, yG, u2, v2), z_w (g := g) (a := (h, pa, da)) (rt := rt) (lf := lf) (q := (yI, yP, yW, yG, u2, v2)) hz, zC_of hz hC2⟩, Or.inr ⟨by omega, rfl⟩⟩)
          · refine lv_iconst (v := nI 1) hx hb dX0_endsWithin_37 (by decide) ?_
            refine lv_goto (tgt := 42) hx hb dX0_endsWithin_38 (by decide) ?_
            exact z_zret hx hb hr (by decide) hP hK hD hS dX0_endsWithin_42 hlocks (⟨⟨(yI, yP, yW, yG, u2, v2), z_w (g := g) (a := (h, pa, da)) (rt := rt) (lf := lf) (q := (yI, yP, yW, yG, u2, v2)) hz, zC_of hz hC2⟩, Or.inl ⟨by omega, by omega, rfl⟩⟩)
      · have hP' : P' = P + i := by have z := zIt_P rt lf (T, P, py, R0, I, Pd, Wn, G) i; rw [hz] at z; exact z
        refine lv_aload_n hx hb dX0_endsWithin_16 rfl (lv_at hl 2 rfl) ?_
        refine z_av (wa := []) (wc := [(h, .inr (0, [.int (nI rt), .int (nI lf), .ref pa, .ref da, .int (nI T), .int (nI P'), .long (lN R'), .long yI, .long yP, .long yW, .long yG])), (pa, .inl (g.2.1, 120, .inl u2)), (da, .inl (g.2.1, 121, .inl v2))]) (wb := []) (va_runV (As := []) (rest := []) ⟨hx, hb, hml, hown, hts⟩ (c_passOneMonth l g h pa da rt lf T P' R' py' I' Pd' Wn' G' yI yP yW yG u2 v2 hZ2 hC2 (by omega) H.size _ rfl) (cwV 0 hts gX0_endsWithin_X0_passOneMonth rfl rfl rfl (by decide +kernel) ⟨Nat.le_of_ble_eq_true rfl, Nat.le_of_ble_eq_true rfl⟩) (zpreV (wa := []) (wc := [(h, .inr (0, [.int (nI rt), .int (nI lf), .ref pa, .ref da, .int (nI T), .int (nI P'), .long (lN R'), .long yI, .long yP, .long yW, .long yG])), (pa, .inl (g.2.1, 120, .inl u2)), (da, .inl (g.2.1, 121, .inl v2))]) (wb := []) (q0 := 0) (ci := 0) (T := TX0) (N := 11) hK hP hD rfl rfl) rfl rfl hl.1 rfl (lv_room (Nat.le_of_ble_eq_true rfl)) dX0_endsWithin_17 ⟨Nat.le_of_ble_eq_true rfl, Nat.le_of_ble_eq_true rfl⟩) hP hD hS hA (fun w1 H locs hq hP hD hS => ?_)
        obtain ⟨⟨zI, zP, zW, zG, u3, v3⟩, rfl, hC3⟩ := hq
        have hP : va_P g.1 vwCl [(h, .inr (0, [.int (nI rt), .int (nI lf), .ref pa, .ref da, .int (nI T), .int (nI (P' + 1)), .long (lN (R' - R' / zMW lf T P')), .long zI, .long zP, .long zW, .long zG])), (pa, .inl (g.2.1, 120, .inl u3)), (da, .inl (g.2.1, 121, .inl v3))] H := hP
        have hD : va_D A [(h, .inr (0, [.int (nI rt), .int (nI lf), .ref pa, .ref da, .int (nI T), .int (nI (P' + 1)), .long (lN (R' - R' / zMW lf T P')), .long zI, .long zP, .long zW, .long zG])), (pa, .inl (g.2.1, 120, .inl u3)), (da, .inl (g.2.1, 121, .inl v3))] := hD
        refine z_iinc (lv' := [(3, .int (nI (i + 1))), (2, .int (nI (min k0 (T - P)))), (0, .ref h), (1, .int (nI k0))]) hx hb dX0_endsWithin_20 hl (k := 0) rfl (by decide) rfl (fun ls hl => ?_)
        refine lv_goto (tgt := 11) hx hb dX0_endsWithin_23 (by decide) ?_
        exact ih (i + 1) (P' + 1) (R' - R' / zMW lf T P') py' _ _ _ _ zI zP zW zG u3 v3 H _ _ (by omega) (by omega) (by rw [zIt, hz]; rfl) (zInv_month hZ2 (by omega)) hC3 hP hD hS (lv_sub hl [0, 1, 2, 3] rfl)
  exact loop (min k0 (T - P) + 1) 0 P R0 py I Pd Wn G xI xP xW xG u v H _ _ (by omega) (by omega) rfl hZ hC hP hD hS (lv_sub hl [0, 1, 2, 3] rfl)

set_option maxHeartbeats 4000000 in
set_option maxRecDepth 100000 in
theorem c_reviewPayments (l : Launch) (g : zG) (h pa da rt lf T P R0 : Nat) (py : Nat → Nat) (I Pd Wn G : Int32) (xI xP xW xG : Int64) (u v : Nat → Int32) (a0 : Nat) (hZ : zInv rt lf (T, P, py, R0, I, Pd, Wn, G)) (hC : zCR rt (T, P, py, R0, I, Pd, Wn, G) (xI, xP, xW, xG, u, v)) (ha0 : a0 ≤ 200) (hnp : ∀ j, P ≤ j → j < T → zSc a0 py j ≤ 1000000) : zMv l yX0_reviewPayments wsX0_reviewPayments ({ frames := 3, cells := 0, slots := 0, locals := 68 } : Room) [.ref h, .int (nI a0)] g [(h, .inr (0, [.int (nI rt), .int (nI lf), .ref pa, .ref da, .int (nI T), .int (nI P), .long (lN R0), .long xI, .long xP, .long xW, .long xG])), (pa, .inl (g.2.1, 120, .inl u)), (da, .inl (g.2.1, 121, .inl v))] (fun w => ∃ q', w = zLW g (h, pa, da) rt lf (zFol rt T (zSc a0 py) (T, P, py, R0, I, Pd, Wn, G)) q' ∧ zCR rt (zFol rt T (zSc a0 py) (T, P, py, R0, I, Pd, Wn, G)) q') 0 0 := by
  intro sz A hAe
  refine Met.ofW (cc := cX0_reviewPayments) (maxL := 2) (ret := none) (by decide) rfl ?_
  intro p e s m args below meth c s₁ B hml hv
  obtain ⟨rfl, hsz, hP, hK, hD0⟩ := hv
  have hx := B.exec
  have hb := B.bytes
  have hr := B.returns
  have hts := atoms_spec (ws := wsX0_reviewPayments) B.pre
  have hown : s.vm.findClass RX0 = some m.cls := findClass_of_methodNamed B.named
  have hlocks := B.notSynchronized
  obtain ⟨hD, hA, hS⟩ := z_in hsz hAe hD0
  have hl := lv_entry ([.ref h, .int (nI a0)]) (n := 2) (Nat.le_of_ble_eq_true rfl)
  rw [lg_entry_eq]
  generalize (lg_sl ([.ref h, .int (nI a0)]) ++ List.replicate (2 - (lg_sl ([.ref h, .int (nI a0)])).length) Slot.unset).toArray = ls at hl ⊢
  have hl : lv_has ls 2 [(0, .ref h), (1, .int (nI a0))] := hl
  have hinX0 : ∀ w ∈ wsX00, w ∈ wsX0_reviewPayments := by decide +kernel
  obtain ⟨hT, hPT, hrt, hlf, hp, hRb⟩ := id hZ
  obtain ⟨hI, hPd, hWn, hG, hu, hv⟩ := id hC
  have hD0 := z_wb (r := rt) (j := P) hT hp (Nat.le_refl P)
  have hR2 := zInv_R hZ
  refine lv_aload_n hx hb dX0_reviewPayments_0 rfl (lv_at hl 0 rfl) ?_
  refine lv_iload_n hx hb dX0_reviewPayments_1 rfl (lv_at hl 1 rfl) ?_
  refine z_av (wa := []) (wc := [(h, .inr (0, [.int (nI rt), .int (nI lf), .ref pa, .ref da, .int (nI T), .int (nI P), .long (lN R0), .long xI, .long xP, .long xW, .long xG])), (pa, .inl (g.2.1, 120, .inl u)), (da, .inl (g.2.1, 121, .inl v))]) (wb := []) (va_runV (As := [.int (nI a0)]) (rest := []) ⟨hx, hb, hml, hown, hts⟩ (c_scalePayments l g h pa da rt lf T P (lN R0) xI xP xW xG u v py a0 hT hPT hp hu ha0 s.heap.size _ rfl) (cwV 1 hts gX0_reviewPayments_X0_scalePayments rfl rfl rfl (by decide +kernel) ⟨Nat.le_of_ble_eq_true rfl, Nat.le_of_ble_eq_true rfl⟩) (zpreV (wa := []) (wc := [(h, .inr (0, [.int (nI rt), .int (nI lf), .ref pa, .ref da, .int (nI T), .int (nI P), .long (lN R0), .long xI, .long xP, .long xW, .long xG])), (pa, .inl (g.2.1, 120, .inl u)), (da, .inl (g.2.1, 121, .inl v))]) (wb := []) (q0 := 0) (ci := 0) (T := TX0) (N := 11) hK hP hD rfl rfl) rfl rfl hl.1 rfl (lv_room (Nat.le_of_ble_eq_true rfl)) dX0_reviewPayments_2 ⟨Nat.le_of_ble_eq_true rfl, Nat.le_of_ble_eq_true rfl⟩) hP hD hS hA (fun w1 H locs hq hP hD hS => ?_)
  obtain ⟨u2, rfl, hu2⟩ := hq
  have hP : va_P g.1 vwCl [(h, .inr (0, [.int (nI rt), .int (nI lf), .ref pa, .ref da, .int (nI T), .int (nI P), .long (lN R0), .long xI, .long xP, .long xW, .long xG])), (pa, .inl (g.2.1, 120, .inl u2)), (da, .inl (g.2.1, 121, .inl v))] H := hP
  have hD : va_D A [(h, .inr (0, [.int (nI rt), .int (nI lf), .ref pa, .ref da, .int (nI T), .int (nI P), .long (lN R0), .long xI, .long xP, .long xW, .long xG])), (pa, .inl (g.2.1, 120, .inl u2)), (da, .inl (g.2.1, 121, .inl v))] := hD
  refine lv_aload_n hx hb dX0_reviewPayments_5 rfl (lv_at hl 0 rfl) ?_
  refine z_av (wa := []) (wc := [(h, .inr (0, [.int (nI rt), .int (nI lf), .ref pa, .ref da, .int (nI T), .int (nI P), .long (lN R0), .long xI, .long xP, .long xW, .long xG])), (pa, .inl (g.2.1, 120, .inl u2)), (da, .inl (g.2.1, 121, .inl v))]) (wb := []) (va_runV (As := []) (rest := []) ⟨hx, hb, hml, hown, hts⟩ (c_followDebt l g h pa da rt lf T P R0 xI xP xW xG u2 v (zSc a0 py) (zWr rt py T (T - P)) hT hPT hnp hu2 hrt (hv P (Nat.le_refl P) hPT) hD0 hR2 H.size _ rfl) (cwV 0 hts gX0_reviewPayments_X0_followDebt rfl rfl rfl (by decide +kernel) ⟨Nat.le_of_ble_eq_true rfl, Nat.le_of_ble_eq_true rfl⟩) (zpreV (wa := []) (wc := [(h, .inr (0, [.int (nI rt), .int (nI lf), .ref pa, .ref da, .int (nI T), .int (nI P), .long (lN R0), .long xI, .long xP, .long xW, .long xG])), (pa, .inl (g.2.1, 120, .inl u2)), (da, .inl (g.2.1, 121, .inl v))]) (wb := []) (q0 := 0) (ci := 0) (T := TX0) (N := 11) hK hP hD rfl rfl) rfl rfl hl.1 rfl (lv_room (Nat.le_of_ble_eq_true rfl)) dX0_reviewPayments_6 ⟨Nat.le_of_ble_eq_true rfl, Nat.le_of_ble_eq_true rfl⟩) hP hD hS hA (fun w1 H locs hq hP hD hS => ?_)
  obtain ⟨v2, R1, yG, rfl, hv2, hcase⟩ := hq
  have hP : va_P g.1 vwCl [(h, .inr (0, [.int (nI rt), .int (nI lf), .ref pa, .ref da, .int (nI T), .int (nI P), .long (lN R1), .long xI, .long xP, .long xW, .long yG])), (pa, .inl (g.2.1, 120, .inl u2)), (da, .inl (g.2.1, 121, .inl v2))] H := hP
  have hD : va_D A [(h, .inr (0, [.int (nI rt), .int (nI lf), .ref pa, .ref da, .int (nI T), .int (nI P), .long (lN R1), .long xI, .long xP, .long xW, .long yG])), (pa, .inl (g.2.1, 120, .inl u2)), (da, .inl (g.2.1, 121, .inl v2))] := hD
  rcases hcase with ⟨h1, rfl, h3⟩ | ⟨h1, rfl, h3⟩
  · exact z_vret hx hb hr hP hK hD hS dX0_reviewPayments_9 hlocks (⟨(xI, xP, xW, yG, u2, v2), z_w (g := g) (a := (h, pa, da)) (rt := rt) (lf := lf) (q := (xI, xP, xW, yG, u2, v2)) (zFol_lt h1), zC_of (zFol_lt h1) ⟨hI, hPd, hWn, by rw [h3, hG], hu2, hv2⟩⟩)
  · exact z_vret hx hb hr hP hK hD hS dX0_reviewPayments_9 hlocks (⟨(xI, xP, xW, yG, u2, v2), z_w (g := g) (a := (h, pa, da)) (rt := rt) (lf := lf) (q := (xI, xP, xW, yG, u2, v2)) (zFol_ge h1), zC_of (zFol_ge h1) ⟨hI, hPd, hWn, by rw [h3, hG], hu2, hv2⟩⟩)

set_option maxHeartbeats 4000000 in
set_option maxRecDepth 100000 in
theorem c_putBehind (l : Launch) (g : zG) (h pa da rt lf T P R0 : Nat) (py : Nat → Nat) (I Pd Wn G : Int32) (xI xP xW xG : Int64) (u v : Nat → Int32) (k0 x0 : Nat) (hZ : zInv rt lf (T, P, py, R0, I, Pd, Wn, G)) (hC : zCR rt (T, P, py, R0, I, Pd, Wn, G) (xI, xP, xW, xG, u, v)) (hk0 : T + k0 ≤ 120) (hx0 : x0 ≤ 10000) : zMv l yX0_putBehind wsX0_putBehind ({ frames := 3, cells := 0, slots := 0, locals := 68 } : Room) [.ref h, .int (nI k0), .int (nI x0)] g [(h, .inr (0, [.int (nI rt), .int (nI lf), .ref pa, .ref da, .int (nI T), .int (nI P), .long (lN R0), .long xI, .long xP, .long xW, .long xG])), (pa, .inl (g.2.1, 120, .inl u)), (da, .inl (g.2.1, 121, .inl v))] (fun w => ∃ q', w = zLW g (h, pa, da) rt lf (zFol rt (T + k0) (zPut T k0 x0 py) (T, P, py, R0, I, Pd, Wn, G)) q' ∧ zCR rt (zFol rt (T + k0) (zPut T k0 x0 py) (T, P, py, R0, I, Pd, Wn, G)) q') 0 0 := by
  intro sz A hAe
  refine Met.ofW (cc := cX0_putBehind) (maxL := 5) (ret := none) (by decide) rfl ?_
  intro p e s m args below meth c s₁ B hml hv
  obtain ⟨rfl, hsz, hP, hK, hD0⟩ := hv
  have hx := B.exec
  have hb := B.bytes
  have hr := B.returns
  have hts := atoms_spec (ws := wsX0_putBehind) B.pre
  have hown : s.vm.findClass RX0 = some m.cls := findClass_of_methodNamed B.named
  have hlocks := B.notSynchronized
  obtain ⟨hD, hA, hS⟩ := z_in hsz hAe hD0
  have hl := lv_entry ([.ref h, .int (nI k0), .int (nI x0)]) (n := 5) (Nat.le_of_ble_eq_true rfl)
  rw [lg_entry_eq]
  generalize (lg_sl ([.ref h, .int (nI k0), .int (nI x0)]) ++ List.replicate (5 - (lg_sl ([.ref h, .int (nI k0), .int (nI x0)])).length) Slot.unset).toArray = ls at hl ⊢
  have hl : lv_has ls 5 [(0, .ref h), (1, .int (nI k0)), (2, .int (nI x0))] := hl
  have hinX0 : ∀ w ∈ wsX00, w ∈ wsX0_putBehind := by decide +kernel
  obtain ⟨hT, hPT, hrt, hlf, hp, hRb⟩ := id hZ
  obtain ⟨hI, hPd, hWn, hG, hu, hv⟩ := id hC
  have hD0 := z_wb (r := rt) (j := P) hT hp (Nat.le_refl P)
  have hR2 := zInv_R hZ
  have hp2 : ∀ j, P ≤ j → j < T + k0 → zPut T k0 x0 py j ≤ 1000000 := fun j h1 h2 => if hc : T ≤ j ∧ j < T + k0 then (by unfold zPut; rw [if_pos hc]; omega) else (by unfold zPut; rw [if_neg hc]; exact hp j h1 (by omega))
  refine lv_aload_n hx hb dX0_putBehind_0 rfl (lv_at hl 0 rfl) ?_
  refine va_get (D := g.1) (ci := 0) (v := .int (nI T)) (C := RX0) (T := TX0) (N := 11) hx hb hts hinX0 hown hK hP 0 rfl rfl 4 (by decide) (hts (.fieldLink RX0 27 "Usewise$Lease" "term" "I") (by decide +kernel)) (fun _ h9 => h9) rfl dX0_putBehind_1 ?_
  refine lv_iload_n hx hb dX0_putBehind_4 rfl (lv_at hl 1 rfl) ?_
  refine z_iadd hx hb dX0_putBehind_5 ?_
  refine lv_bipush (v := nI 120) hx hb dX0_putBehind_6 (by decide) ?_
  refine va_mmin hx hb (hml.trans hl.1.symm) hown (hts (.methodLink RX0 18 Lib.Math.min.name) (by decide +kernel)) (hts (.static Lib.Math.min.name) (by decide +kernel)) (hts (.initialized "java/lang/Math") (by decide +kernel)) (hts (.code Lib.Math.min.name Lib.Math.min.code 2 (some .int)) (by decide +kernel)) (Nat.le_of_ble_eq_true rfl) (Nat.le_of_ble_eq_true rfl) (Nat.le_of_ble_eq_true rfl) (Nat.le_of_ble_eq_true rfl) dX0_putBehind_8 ?_
  refine zi (y := nI (T + k0)) ((z_min (by omega) (by omega)).trans (by rw [Nat.min_eq_left (by omega)])) ?_
  refine lv_istore_n (lv' := [(3, .int (nI (T + k0))), (0, .ref h), (1, .int (nI k0)), (2, .int (nI x0))]) hx hb dX0_putBehind_11 rfl hl (by decide) rfl (fun ls hl => ?_)
  refine lv_aload_n hx hb dX0_putBehind_12 rfl (lv_at hl 1 rfl) ?_
  refine va_get (D := g.1) (ci := 0) (v := .int (nI T)) (C := RX0) (T := TX0) (N := 11) hx hb hts hinX0 hown hK hP 0 rfl rfl 4 (by decide) (hts (.fieldLink RX0 27 "Usewise$Lease" "term" "I") (by decide +kernel)) (fun _ h9 => h9) rfl dX0_putBehind_13 ?_
  refine lv_istore (lv' := [(4, .int (nI T)), (3, .int (nI (T + k0))), (0, .ref h), (1, .int (nI k0)), (2, .int (nI x0))]) hx hb dX0_putBehind_16 hl (by decide) rfl (fun ls hl => ?_)
  have loop : ∀ (n : Nat) (i : Nat) (u2 : Nat → Int32) (H : Heap) (locs : List Loc) (ls : Array Slot), T + k0 < i + n → T ≤ i → i ≤ T + k0 → (∀ j, j < T → u2 j = u j) → (∀ j, T ≤ j → j < i → u2 j = nI x0) → va_P g.1 vwCl [(h, .inr (0, [.int (nI rt), .int (nI lf), .ref pa, .ref da, .int (nI T), .int (nI P), .long (lN R0), .long xI, .long xP, .long xW, .long xG])), (pa, .inl (g.2.1, 120, .inl u2)), (da, .inl (g.2.1, 121, .inl v))] H → va_D A [(h, .inr (0, [.int (nI rt), .int (nI lf), .ref pa, .ref da, .int (nI T), .int (nI P), .long (lN R0), .long xI, .long xP, .long xW, .long xG])), (pa, .inl (g.2.1, 120, .inl u2)), (da, .inl (g.2.1, 121, .inl v))] → va_S A s.heap H locs → lv_has ls 5 [(4, .int (nI i)), (3, .int (nI (T + k0))), (0, .ref h), (1, .int (nI k0)), (2, .int (nI x0))] → W p l e (headSpec wsX0_putBehind ({ frames := 3, cells := 0, slots := 0, locals := 68 } : Room)).room s m ([.ref h, .int (nI k0), .int (nI x0)] : List Value).toArray below meth c H locs 0 0 (MQ below (va_Qv (fun w => ∃ q', w = zLW g (h, pa, da) rt lf (zFol rt (T + k0) (zPut T k0 x0 py) (T, P, py, R0, I, Pd, Wn, G)) q' ∧ zCR rt (zFol rt (T + k0) (zPut T k0 x0 py) (T, P, py, R0, I, Pd, Wn, G)) q') (zOut g A) A) ([.ref h, .int (nI k0), .int (nI x0)] : List Value).toArray s 0 0 A) (F0 m 18 ls []) := by
    intro n
    induction n with
    | zero =>
      intro i u2 H locs ls hn hi hi2 hu1 hu2 hP hD hS hl
      omega
    | succ n ih =>
      intro i u2 H locs ls hn hi hi2 hu1 hu2 hP hD hS hl
      refine lv_iload hx hb dX0_putBehind_18 (lv_at hl 0 rfl) ?_
      refine lv_iload_n hx hb dX0_putBehind_20 rfl (lv_at hl 1 rfl) ?_
      refine z_icmp_ge (tgt := 38) hx hb dX0_putBehind_21 (by decide) (by omega) (by omega) (fun hc => ?_) (fun hc => ?_)
      · have hu3 : ∀ j, P ≤ j → j < T + k0 → u2 j = nI (zPut T k0 x0 py j) := fun j h1 h2 => if hc : T ≤ j ∧ j < T + k0 then (by unfold zPut; rw [if_pos hc]; exact hu2 j hc.1 (by omega)) else (by unfold zPut; rw [if_neg hc]; exact (hu1 j (by omega)).trans (hu j h1 (by omega)))
        refine lv_aload_n hx hb dX0_putBehind_38 rfl (lv_at hl 2 rfl) ?_
        refine lv_iload_n hx hb dX0_putBehind_39 rfl (lv_at hl 1 rfl) ?_
        refine va_put (D := g.1) (ci := 0) (v := .int (nI (T + k0))) (ty := .int) (C := RX0) (T := TX0) (N := 11) hx hb hts hinX0 tyX0 tyX0_ok nmX0 hown hK hP hD hS 0 rfl rfl 4 (by decide) (hts (.fieldLink RX0 27 "Usewise$Lease" "term" "I") (by decide +kernel)) (fun _ h9 => h9) rfl (by decide +kernel) rfl rfl (Nat.le_of_ble_eq_true rfl) dX0_putBehind_40 (fun H locs hP hD hS => ?_)
        have hP : va_P g.1 vwCl [(h, .inr (0, [.int (nI rt), .int (nI lf), .ref pa, .ref da, .int (nI (T + k0)), .int (nI P), .long (lN R0), .long xI, .long xP, .long xW, .long xG])), (pa, .inl (g.2.1, 120, .inl u2)), (da, .inl (g.2.1, 121, .inl v))] H := hP
        have hD : va_D A [(h, .inr (0, [.int (nI rt), .int (nI lf), .ref pa, .ref da, .int (nI (T + k0)), .int (nI P), .long (lN R0), .long xI, .long xP, .long xW, .long xG])), (pa, .inl (g.2.1, 120, .inl u2)), (da, .inl (g.2.1, 121, .inl v))] := hD
        refine lv_aload_n hx hb dX0_putBehind_43 rfl (lv_at hl 2 rfl) ?_
        refine z_av (wa := []) (wc := [(h, .inr (0, [.int (nI rt), .int (nI lf), .ref pa, .ref da, .int (nI (T + k0)), .int (nI P), .long (lN R0), .long xI, .long xP, .long xW, .long xG])), (pa, .inl (g.2.1, 120, .inl u2)), (da, .inl (g.2.1, 121, .inl v))]) (wb := []) (va_runV (As := []) (rest := []) ⟨hx, hb, hml, hown, hts⟩ (c_followDebt l g h pa da rt lf (T + k0) P R0 xI xP xW xG u2 v (zPut T k0 x0 py) (zWr rt py T (T - P)) hk0 (by omega) hp2 hu3 hrt (hv P (Nat.le_refl P) hPT) hD0 hR2 H.size _ rfl) (cwV 0 hts gX0_putBehind_X0_followDebt rfl rfl rfl (by decide +kernel) ⟨Nat.le_of_ble_eq_true rfl, Nat.le_of_ble_eq_true rfl⟩) (zpreV (wa := []) (wc := [(h, .inr (0, [.int (nI rt), .int (nI lf), .ref pa, .ref da, .int (nI (T + k0)), .int (nI P), .long (lN R0), .long xI, .long xP, .long xW, .long xG])), (pa, .inl (g.2.1, 120, .inl u2)), (da, .inl (g.2.1, 121, .inl v))]) (wb := []) (q0 := 0) (ci := 0) (T := TX0) (N := 11) hK hP hD rfl rfl) rfl rfl hl.1 rfl (lv_room (Nat.le_of_ble_eq_true rfl)) dX0_putBehind_44 ⟨Nat.le_of_ble_eq_true rfl, Nat.le_of_ble_eq_true rfl⟩) hP hD hS hA (fun w1 H locs hq hP hD hS => ?_)
        obtain ⟨v2, R1, yG, rfl, hv2, hcase⟩ := hq
        have hP : va_P g.1 vwCl [(h, .inr (0, [.int (nI rt), .int (nI lf), .ref pa, .ref da, .int (nI (T + k0)), .int (nI P), .long (lN R1), .long xI, .long xP, .long xW, .long yG])), (pa, .inl (g.2.1, 120, .inl u2)), (da, .inl (g.2.1, 121, .inl v2))] H := hP
        have hD : va_D A [(h, .inr (0, [.int (nI rt), .int (nI lf), .ref pa, .ref da, .int (nI (T + k0)), .int (nI P), .long (lN R1), .long xI, .long xP, .long xW, .long yG])), (pa, .inl (g.2.1, 120, .inl u2)), (da, .inl (g.2.1, 121, .inl v2))] := hD
        rcases hcase with ⟨h1, rfl, h3⟩ | ⟨h1, rfl, h3⟩
        · exact z_vret hx hb hr hP hK hD hS dX0_putBehind_47 hlocks (⟨(xI, xP, xW, yG, u2, v2), z_w (g := g) (a := (h, pa, da)) (rt := rt) (lf := lf) (q := (xI, xP, xW, yG, u2, v2)) (zFol_lt h1), zC_of (zFol_lt h1) ⟨hI, hPd, hWn, by rw [h3, hG], hu3, hv2⟩⟩)
        · exact z_vret hx hb hr hP hK hD hS dX0_putBehind_47 hlocks (⟨(xI, xP, xW, yG, u2, v2), z_w (g := g) (a := (h, pa, da)) (rt := rt) (lf := lf) (q := (xI, xP, xW, yG, u2, v2)) (zFol_ge h1), zC_of (zFol_ge h1) ⟨hI, hPd, hWn, by rw [h3, hG], hu3, hv2⟩⟩)
      · refine lv_aload_n hx hb dX0_putBehind_24 rfl (lv_at hl 2 rfl) ?_
        refine va_get (D := g.1) (ci := 0) (v := .ref pa) (C := RX0) (T := TX0) (N := 11) hx hb hts hinX0 hown hK hP 0 rfl rfl 2 (by decide) (hts (.fieldLink RX0 30 "Usewise$Lease" "payments" "[I") (by decide +kernel)) (fun _ h9 => h9) rfl dX0_putBehind_25 ?_
        refine lv_iload hx hb dX0_putBehind_28 (lv_at hl 0 rfl) ?_
        refine lv_iload_n hx hb dX0_putBehind_30 rfl (lv_at hl 4 rfl) ?_
        refine z_iast hx hb hK hP hD hS 1 0 rfl rfl (by omega) (by decide) dX0_putBehind_31 (fun H locs hP hD hS => ?_)
        have hP : va_P g.1 vwCl [(h, .inr (0, [.int (nI rt), .int (nI lf), .ref pa, .ref da, .int (nI T), .int (nI P), .long (lN R0), .long xI, .long xP, .long xW, .long xG])), (pa, .inl (g.2.1, 120, .inl (upd u2 i (nI x0)))), (da, .inl (g.2.1, 121, .inl v))] H := hP
        have hD : va_D A [(h, .inr (0, [.int (nI rt), .int (nI lf), .ref pa, .ref da, .int (nI T), .int (nI P), .long (lN R0), .long xI, .long xP, .long xW, .long xG])), (pa, .inl (g.2.1, 120, .inl (upd u2 i (nI x0)))), (da, .inl (g.2.1, 121, .inl v))] := hD
        refine z_iinc (lv' := [(4, .int (nI (i + 1))), (3, .int (nI (T + k0))), (0, .ref h), (1, .int (nI k0)), (2, .int (nI x0))]) hx hb dX0_putBehind_32 hl (k := 0) rfl (by decide) rfl (fun ls hl => ?_)
        refine lv_goto (tgt := 18) hx hb dX0_putBehind_35 (by decide) ?_
        exact ih (i + 1) (upd u2 i (nI x0)) H _ _ (by omega) (by omega) (by omega) (fun j h1 => (by rw [z_upd_n _ _ (by omega)]; exact hu1 j h1)) (fun j h1 h2 => if hj : j = i then (by rw [hj, z_upd_s]) else (by rw [z_upd_n _ _ hj]; exact hu2 j h1 (by omega))) hP hD hS (lv_sub hl [0, 1, 2, 3, 4] rfl)
  exact loop (k0 + 1) T u _ _ _ (by omega) (by omega) (by omega) (fun j _ => rfl) (fun j h1 h2 => absurd h2 (by omega)) hP hD hS (lv_sub hl [0, 1, 2, 3, 4] rfl)

set_option maxHeartbeats 4000000 in
set_option maxRecDepth 100000 in
theorem c_takeOffTheEnd (l : Launch) (g : zG) (h pa da rt lf T P R0 : Nat) (py : Nat → Nat) (I Pd Wn G : Int32) (xI xP xW xG : Int64) (u v : Nat → Int32) (k0 : Nat) (hZ : zInv rt lf (T, P, py, R0, I, Pd, Wn, G)) (hC : zCR rt (T, P, py, R0, I, Pd, Wn, G) (xI, xP, xW, xG, u, v)) (hk0 : k0 < T - P) : zMi l yX0_takeOffTheEnd wsX0_takeOffTheEnd ({ frames := 3, cells := 0, slots := 0, locals := 72 } : Room) [.ref h, .int (nI k0)] g [(h, .inr (0, [.int (nI rt), .int (nI lf), .ref pa, .ref da, .int (nI T), .int (nI P), .long (lN R0), .long xI, .long xP, .long xW, .long xG])), (pa, .inl (g.2.1, 120, .inl u)), (da, .inl (g.2.1, 121, .inl v))] (fun q w => q = zGn rt (T - k0) py (R0 * (T - k0 - P) / (T - P)) (T, P, py, R0, I, Pd, Wn, G) ∧ ∃ q', w = zLW g (h, pa, da) rt lf (zGiv rt (T - k0) py (R0 * (T - k0 - P) / (T - P)) (T, P, py, R0, I, Pd, Wn, G)) q' ∧ zCR rt (zGiv rt (T - k0) py (R0 * (T - k0 - P) / (T - P)) (T, P, py, R0, I, Pd, Wn, G)) q') 0 0 := by
  intro sz A hAe
  refine Met.ofW (cc := cX0_takeOffTheEnd) (maxL := 3) (ret := some .int) (by decide) rfl ?_
  intro p e s m args below meth c s₁ B hml hv
  obtain ⟨rfl, hsz, hP, hK, hD0⟩ := hv
  have hx := B.exec
  have hb := B.bytes
  have hr := B.returns
  have hts := atoms_spec (ws := wsX0_takeOffTheEnd) B.pre
  have hown : s.vm.findClass RX0 = some m.cls := findClass_of_methodNamed B.named
  have hlocks := B.notSynchronized
  obtain ⟨hD, hA, hS⟩ := z_in hsz hAe hD0
  have hl := lv_entry ([.ref h, .int (nI k0)]) (n := 3) (Nat.le_of_ble_eq_true rfl)
  rw [lg_entry_eq]
  generalize (lg_sl ([.ref h, .int (nI k0)]) ++ List.replicate (3 - (lg_sl ([.ref h, .int (nI k0)])).length) Slot.unset).toArray = ls at hl ⊢
  have hl : lv_has ls 3 [(0, .ref h), (1, .int (nI k0))] := hl
  have hinX0 : ∀ w ∈ wsX00, w ∈ wsX0_takeOffTheEnd := by decide +kernel
  obtain ⟨hT, hPT, hrt, hlf, hp, hRb⟩ := id hZ
  obtain ⟨hI, hPd, hWn, hG, hu, hv⟩ := id hC
  have hD0 := z_wb (r := rt) (j := P) hT hp (Nat.le_refl P)
  have hR2 := zInv_R hZ
  refine lv_aload_n hx hb dX0_takeOffTheEnd_0 rfl (lv_at hl 0 rfl) ?_
  refine z_ai (wa := []) (wc := [(h, .inr (0, [.int (nI rt), .int (nI lf), .ref pa, .ref da, .int (nI T), .int (nI P), .long (lN R0), .long xI, .long xP, .long xW, .long xG])), (pa, .inl (g.2.1, 120, .inl u)), (da, .inl (g.2.1, 121, .inl v))]) (wb := []) (va_runV (As := []) (rest := []) ⟨hx, hb, hml, hown, hts⟩ (c_monthsLeft l g h pa da rt lf T P (lN R0) xI xP xW xG u v hPT s.heap.size _ rfl) (cwV 0 hts gX0_takeOffTheEnd_X0_monthsLeft rfl rfl rfl (by decide +kernel) ⟨Nat.le_of_ble_eq_true rfl, Nat.le_of_ble_eq_true rfl⟩) (zpreV (wa := []) (wc := [(h, .inr (0, [.int (nI rt), .int (nI lf), .ref pa, .ref da, .int (nI T), .int (nI P), .long (lN R0), .long xI, .long xP, .long xW, .long xG])), (pa, .inl (g.2.1, 120, .inl u)), (da, .inl (g.2.1, 121, .inl v))]) (wb := []) (q0 := 0) (ci := 0) (T := TX0) (N := 11) hK hP hD rfl rfl) rfl rfl hl.1 rfl (lv_room (Nat.le_of_ble_eq_true rfl)) dX0_takeOffTheEnd_1 ⟨Nat.le_of_ble_eq_true rfl, Nat.le_of_ble_eq_true rfl⟩) hP hD hS hA (fun r_1 w1 H locs hq hP hD hS => ?_)
  obtain ⟨rfl, rfl⟩ := hq
  have hP : va_P g.1 vwCl [(h, .inr (0, [.int (nI rt), .int (nI lf), .ref pa, .ref da, .int (nI T), .int (nI P), .long (lN R0), .long xI, .long xP, .long xW, .long xG])), (pa, .inl (g.2.1, 120, .inl u)), (da, .inl (g.2.1, 121, .inl v))] H := hP
  have hD : va_D A [(h, .inr (0, [.int (nI rt), .int (nI lf), .ref pa, .ref da, .int (nI T), .int (nI P), .long (lN R0), .long xI, .long xP, .long xW, .long xG])), (pa, .inl (g.2.1, 120, .inl u)), (da, .inl (g.2.1, 121, .inl v))] := hD
  refine lv_istore_n (lv' := [(2, .int (nI (T - P))), (0, .ref h), (1, .int (nI k0))]) hx hb dX0_takeOffTheEnd_4 rfl hl (by decide) rfl (fun ls hl => ?_)
  refine lv_aload_n hx hb dX0_takeOffTheEnd_5 rfl (lv_at hl 1 rfl) ?_
  refine lv_dup hx hb dX0_takeOffTheEnd_6 rfl ?_
  refine va_get (D := g.1) (ci := 0) (v := .int (nI T)) (C := RX0) (T := TX0) (N := 11) hx hb hts hinX0 hown hK hP 0 rfl rfl 4 (by decide) (hts (.fieldLink RX0 27 "Usewise$Lease" "term" "I") (by decide +kernel)) (fun _ h9 => h9) rfl dX0_takeOffTheEnd_7 ?_
  refine lv_iload_n hx hb dX0_takeOffTheEnd_10 rfl (lv_at hl 2 rfl) ?_
  refine z_isub hx hb dX0_takeOffTheEnd_11 (by omega) ?_
  refine va_put (D := g.1) (ci := 0) (v := .int (nI (T - k0))) (ty := .int) (C := RX0) (T := TX0) (N := 11) hx hb hts hinX0 tyX0 tyX0_ok nmX0 hown hK hP hD hS 0 rfl rfl 4 (by decide) (hts (.fieldLink RX0 27 "Usewise$Lease" "term" "I") (by decide +kernel)) (fun _ h9 => h9) rfl (by decide +kernel) rfl rfl (Nat.le_of_ble_eq_true rfl) dX0_takeOffTheEnd_12 (fun H locs hP hD hS => ?_)
  have hP : va_P g.1 vwCl [(h, .inr (0, [.int (nI rt), .int (nI lf), .ref pa, .ref da, .int (nI (T - k0)), .int (nI P), .long (lN R0), .long xI, .long xP, .long xW, .long xG])), (pa, .inl (g.2.1, 120, .inl u)), (da, .inl (g.2.1, 121, .inl v))] H := hP
  have hD : va_D A [(h, .inr (0, [.int (nI rt), .int (nI lf), .ref pa, .ref da, .int (nI (T - k0)), .int (nI P), .long (lN R0), .long xI, .long xP, .long xW, .long xG])), (pa, .inl (g.2.1, 120, .inl u)), (da, .inl (g.2.1, 121, .inl v))] := hD
  refine lv_aload_n hx hb dX0_takeOffTheEnd_15 rfl (lv_at hl 1 rfl) ?_
  refine lv_iload_n hx hb dX0_takeOffTheEnd_16 rfl (lv_at hl 0 rfl) ?_
  refine lv_iconst (v := nI 1) hx hb dX0_takeOffTheEnd_17 (by decide) ?_
  refine z_icmp_ge (tgt := 25) hx hb dX0_takeOffTheEnd_18 (by decide) (by omega) (by omega) (fun hc => ?_) (fun hc => ?_)
  · refine lv_aload_n hx hb dX0_takeOffTheEnd_25 rfl (lv_at hl 1 rfl) ?_
    refine va_get (D := g.1) (ci := 0) (v := .long (lN R0)) (C := RX0) (T := TX0) (N := 11) hx hb hts hinX0 hown hK hP 0 rfl rfl 6 (by decide) (hts (.fieldLink RX0 44 "Usewise$Lease" "right" "J") (by decide +kernel)) (fun _ h9 => h9) rfl dX0_takeOffTheEnd_26 ?_
    refine lv_aload_n hx hb dX0_takeOffTheEnd_29 rfl (lv_at hl 1 rfl) ?_
    refine z_ai (wa := []) (wc := [(h, .inr (0, [.int (nI rt), .int (nI lf), .ref pa, .ref da, .int (nI (T - k0)), .int (nI P), .long (lN R0), .long xI, .long xP, .long xW, .long xG])), (pa, .inl (g.2.1, 120, .inl u)), (da, .inl (g.2.1, 121, .inl v))]) (wb := []) (va_runV (As := []) (rest := [.long (lN R0), .ref h]) ⟨hx, hb, hml, hown, hts⟩ (c_monthsLeft l g h pa da rt lf (T - k0) P (lN R0) xI xP xW xG u v (by omega) H.size _ rfl) (cwV 0 hts gX0_takeOffTheEnd_X0_monthsLeft rfl rfl rfl (by decide +kernel) ⟨Nat.le_of_ble_eq_true rfl, Nat.le_of_ble_eq_true rfl⟩) (zpreV (wa := []) (wc := [(h, .inr (0, [.int (nI rt), .int (nI lf), .ref pa, .ref da, .int (nI (T - k0)), .int (nI P), .long (lN R0), .long xI, .long xP, .long xW, .long xG])), (pa, .inl (g.2.1, 120, .inl u)), (da, .inl (g.2.1, 121, .inl v))]) (wb := []) (q0 := 0) (ci := 0) (T := TX0) (N := 11) hK hP hD rfl rfl) rfl rfl hl.1 rfl (lv_room (Nat.le_of_ble_eq_true rfl)) dX0_takeOffTheEnd_30 ⟨Nat.le_of_ble_eq_true rfl, Nat.le_of_ble_eq_true rfl⟩) hP hD hS hA (fun r_2 w1 H locs hq hP hD hS => ?_)
    obtain ⟨rfl, rfl⟩ := hq
    have hP : va_P g.1 vwCl [(h, .inr (0, [.int (nI rt), .int (nI lf), .ref pa, .ref da, .int (nI (T - k0)), .int (nI P), .long (lN R0), .long xI, .long xP, .long xW, .long xG])), (pa, .inl (g.2.1, 120, .inl u)), (da, .inl (g.2.1, 121, .inl v))] H := hP
    have hD : va_D A [(h, .inr (0, [.int (nI rt), .int (nI lf), .ref pa, .ref da, .int (nI (T - k0)), .int (nI P), .long (lN R0), .long xI, .long xP, .long xW, .long xG])), (pa, .inl (g.2.1, 120, .inl u)), (da, .inl (g.2.1, 121, .inl v))] := hD
    have hRm : R0 * (T - k0 - P) ≤ 240000000 * 120 := Nat.mul_le_mul hR2 (by omega)
    refine z_i2l hx hb dX0_takeOffTheEnd_33 (by omega) ?_
    refine z_lmul hx hb dX0_takeOffTheEnd_34 ?_
    refine lv_iload_n hx hb dX0_takeOffTheEnd_35 rfl (lv_at hl 0 rfl) ?_
    refine z_i2l hx hb dX0_takeOffTheEnd_36 (by omega) ?_
    refine z_ldiv hx hb dX0_takeOffTheEnd_37 (by omega) (by omega) (by omega) ?_
    refine z_ai (wa := []) (wc := [(h, .inr (0, [.int (nI rt), .int (nI lf), .ref pa, .ref da, .int (nI (T - k0)), .int (nI P), .long (lN R0), .long xI, .long xP, .long xW, .long xG])), (pa, .inl (g.2.1, 120, .inl u)), (da, .inl (g.2.1, 121, .inl v))]) (wb := []) (va_runV (As := [.long (lN ((R0 * (T - k0 - P)) / (T - P)))]) (rest := []) ⟨hx, hb, hml, hown, hts⟩ (c_giveUp l g h pa da rt lf (T - k0) P R0 xI xP xW xG u v py (zWr rt py T (T - P)) (R0 * (T - k0 - P) / (T - P)) (by omega) (by omega) (fun j h1 h2 => hp j h1 (by omega)) (fun j h1 h2 => hu j h1 (by omega)) hrt (hv P (Nat.le_refl P) hPT) hD0 H.size _ rfl) (cwV 1 hts gX0_takeOffTheEnd_X0_giveUp rfl rfl rfl (by decide +kernel) ⟨Nat.le_of_ble_eq_true rfl, Nat.le_of_ble_eq_true rfl⟩) (zpreV (wa := []) (wc := [(h, .inr (0, [.int (nI rt), .int (nI lf), .ref pa, .ref da, .int (nI (T - k0)), .int (nI P), .long (lN R0), .long xI, .long xP, .long xW, .long xG])), (pa, .inl (g.2.1, 120, .inl u)), (da, .inl (g.2.1, 121, .inl v))]) (wb := []) (q0 := 0) (ci := 0) (T := TX0) (N := 11) hK hP hD rfl rfl) rfl rfl hl.1 rfl (lv_room (Nat.le_of_ble_eq_true rfl)) dX0_takeOffTheEnd_38 ⟨Nat.le_of_ble_eq_true rfl, Nat.le_of_ble_eq_true rfl⟩) hP hD hS hA (fun r_3 w1 H locs hq hP hD hS => ?_)
    obtain ⟨v2, yG, rfl, hv2, rfl, hg⟩ := hq
    have hP : va_P g.1 vwCl [(h, .inr (0, [.int (nI rt), .int (nI lf), .ref pa, .ref da, .int (nI (T - k0)), .int (nI P), .long (lN (R0 * (T - k0 - P) / (T - P))), .long xI, .long xP, .long xW, .long yG])), (pa, .inl (g.2.1, 120, .inl u)), (da, .inl (g.2.1, 121, .inl v2))] H := hP
    have hD : va_D A [(h, .inr (0, [.int (nI rt), .int (nI lf), .ref pa, .ref da, .int (nI (T - k0)), .int (nI P), .long (lN (R0 * (T - k0 - P) / (T - P))), .long xI, .long xP, .long xW, .long yG])), (pa, .inl (g.2.1, 120, .inl u)), (da, .inl (g.2.1, 121, .inl v2))] := hD
    exact z_iret hx hb hr hP hK hD hS dX0_takeOffTheEnd_41 hlocks (⟨rfl, (xI, xP, xW, yG, u, v2), rfl, hI, hPd, hWn, (by rw [hg, hG]; rfl), fun j h1 h2 => hu j h1 (by omega), hv2⟩)
  · exact absurd hc (by omega)

set_option maxHeartbeats 4000000 in
set_option maxRecDepth 100000 in
theorem c_keepPart (l : Launch) (g : zG) (h pa da rt lf T P R0 : Nat) (py : Nat → Nat) (I Pd Wn G : Int32) (xI xP xW xG : Int64) (u v : Nat → Int32) (a0 : Nat) (hZ : zInv rt lf (T, P, py, R0, I, Pd, Wn, G)) (hC : zCR rt (T, P, py, R0, I, Pd, Wn, G) (xI, xP, xW, xG, u, v)) (ha0 : a0 ≤ 99) : zMi l yX0_keepPart wsX0_keepPart ({ frames := 3, cells := 0, slots := 0, locals := 72 } : Room) [.ref h, .int (nI a0)] g [(h, .inr (0, [.int (nI rt), .int (nI lf), .ref pa, .ref da, .int (nI T), .int (nI P), .long (lN R0), .long xI, .long xP, .long xW, .long xG])), (pa, .inl (g.2.1, 120, .inl u)), (da, .inl (g.2.1, 121, .inl v))] (fun q w => q = zGn rt T (zSc a0 py) (R0 * a0 / 100) (T, P, py, R0, I, Pd, Wn, G) ∧ ∃ q', w = zLW g (h, pa, da) rt lf (zGiv rt T (zSc a0 py) (R0 * a0 / 100) (T, P, py, R0, I, Pd, Wn, G)) q' ∧ zCR rt (zGiv rt T (zSc a0 py) (R0 * a0 / 100) (T, P, py, R0, I, Pd, Wn, G)) q') 0 0 := by
  intro sz A hAe
  refine Met.ofW (cc := cX0_keepPart) (maxL := 2) (ret := some .int) (by decide) rfl ?_
  intro p e s m args below meth c s₁ B hml hv
  obtain ⟨rfl, hsz, hP, hK, hD0⟩ := hv
  have hx := B.exec
  have hb := B.bytes
  have hr := B.returns
  have hts := atoms_spec (ws := wsX0_keepPart) B.pre
  have hown : s.vm.findClass RX0 = some m.cls := findClass_of_methodNamed B.named
  have hlocks := B.notSynchronized
  obtain ⟨hD, hA, hS⟩ := z_in hsz hAe hD0
  have hl := lv_entry ([.ref h, .int (nI a0)]) (n := 2) (Nat.le_of_ble_eq_true rfl)
  rw [lg_entry_eq]
  generalize (lg_sl ([.ref h, .int (nI a0)]) ++ List.replicate (2 - (lg_sl ([.ref h, .int (nI a0)])).length) Slot.unset).toArray = ls at hl ⊢
  have hl : lv_has ls 2 [(0, .ref h), (1, .int (nI a0))] := hl
  have hinX0 : ∀ w ∈ wsX00, w ∈ wsX0_keepPart := by decide +kernel
  obtain ⟨hT, hPT, hrt, hlf, hp, hRb⟩ := id hZ
  obtain ⟨hI, hPd, hWn, hG, hu, hv⟩ := id hC
  have hD0 := z_wb (r := rt) (j := P) hT hp (Nat.le_refl P)
  have hR2 := zInv_R hZ
  refine lv_aload_n hx hb dX0_keepPart_0 rfl (lv_at hl 0 rfl) ?_
  refine lv_iload_n hx hb dX0_keepPart_1 rfl (lv_at hl 1 rfl) ?_
  have hp2 : ∀ j, P ≤ j → j < T → zSc a0 py j ≤ 1000000 := fun j h1 h2 => by have z := hp j h1 h2; have z2 : py j * a0 ≤ py j * 100 := Nat.mul_le_mul_left _ (by omega); unfold zSc; omega
  refine z_av (wa := []) (wc := [(h, .inr (0, [.int (nI rt), .int (nI lf), .ref pa, .ref da, .int (nI T), .int (nI P), .long (lN R0), .long xI, .long xP, .long xW, .long xG])), (pa, .inl (g.2.1, 120, .inl u)), (da, .inl (g.2.1, 121, .inl v))]) (wb := []) (va_runV (As := [.int (nI a0)]) (rest := []) ⟨hx, hb, hml, hown, hts⟩ (c_scalePayments l g h pa da rt lf T P (lN R0) xI xP xW xG u v py a0 hT hPT hp hu (by omega) s.heap.size _ rfl) (cwV 1 hts gX0_keepPart_X0_scalePayments rfl rfl rfl (by decide +kernel) ⟨Nat.le_of_ble_eq_true rfl, Nat.le_of_ble_eq_true rfl⟩) (zpreV (wa := []) (wc := [(h, .inr (0, [.int (nI rt), .int (nI lf), .ref pa, .ref da, .int (nI T), .int (nI P), .long (lN R0), .long xI, .long xP, .long xW, .long xG])), (pa, .inl (g.2.1, 120, .inl u)), (da, .inl (g.2.1, 121, .inl v))]) (wb := []) (q0 := 0) (ci := 0) (T := TX0) (N := 11) hK hP hD rfl rfl) rfl rfl hl.1 rfl (lv_room (Nat.le_of_ble_eq_true rfl)) dX0_keepPart_2 ⟨Nat.le_of_ble_eq_true rfl, Nat.le_of_ble_eq_true rfl⟩) hP hD hS hA (fun w1 H locs hq hP hD hS => ?_)
  obtain ⟨u2, rfl, hu2⟩ := hq
  have hP : va_P g.1 vwCl [(h, .inr (0, [.int (nI rt), .int (nI lf), .ref pa, .ref da, .int (nI T), .int (nI P), .long (lN R0), .long xI, .long xP, .long xW, .long xG])), (pa, .inl (g.2.1, 120, .inl u2)), (da, .inl (g.2.1, 121, .inl v))] H := hP
  have hD : va_D A [(h, .inr (0, [.int (nI rt), .int (nI lf), .ref pa, .ref da, .int (nI T), .int (nI P), .long (lN R0), .long xI, .long xP, .long xW, .long xG])), (pa, .inl (g.2.1, 120, .inl u2)), (da, .inl (g.2.1, 121, .inl v))] := hD
  refine lv_aload_n hx hb dX0_keepPart_5 rfl (lv_at hl 0 rfl) ?_
  refine lv_aload_n hx hb dX0_keepPart_6 rfl (lv_at hl 0 rfl) ?_
  refine va_get (D := g.1) (ci := 0) (v := .long (lN R0)) (C := RX0) (T := TX0) (N := 11) hx hb hts hinX0 hown hK hP 0 rfl rfl 6 (by decide) (hts (.fieldLink RX0 44 "Usewise$Lease" "right" "J") (by decide +kernel)) (fun _ h9 => h9) rfl dX0_keepPart_7 ?_
  refine lv_iload_n hx hb dX0_keepPart_10 rfl (lv_at hl 1 rfl) ?_
  refine z_al (wa := [(h, .inr (0, [.int (nI rt), .int (nI lf), .ref pa, .ref da, .int (nI T), .int (nI P), .long (lN R0), .long xI, .long xP, .long xW, .long xG])), (pa, .inl (g.2.1, 120, .inl u2)), (da, .inl (g.2.1, 121, .inl v))]) (wc := []) (wb := []) (va_runS (As := [.long (lN R0), .int (nI a0)]) (rest := [.ref h]) ⟨hx, hb, hml, hown, hts⟩ (c_percentOf l g R0 a0 (by omega) (by omega) H.size _ rfl) (va_cwS 2 hts gX0_keepPart_X0_percentOf rfl rfl rfl (by decide +kernel) ⟨Nat.le_of_ble_eq_true rfl, Nat.le_of_ble_eq_true rfl⟩) (zpreS (wa := [(h, .inr (0, [.int (nI rt), .int (nI lf), .ref pa, .ref da, .int (nI T), .int (nI P), .long (lN R0), .long xI, .long xP, .long xW, .long xG])), (pa, .inl (g.2.1, 120, .inl u2)), (da, .inl (g.2.1, 121, .inl v))]) (wc := []) (wb := []) hK hP hD) rfl rfl hl.1 rfl (lv_room (Nat.le_of_ble_eq_true rfl)) dX0_keepPart_11 ⟨Nat.le_of_ble_eq_true rfl, Nat.le_of_ble_eq_true rfl⟩) hP hD hS hA (fun r_2 w1 H locs hq hP hD hS => ?_)
  obtain ⟨rfl, rfl⟩ := hq
  have hP : va_P g.1 vwCl [(h, .inr (0, [.int (nI rt), .int (nI lf), .ref pa, .ref da, .int (nI T), .int (nI P), .long (lN R0), .long xI, .long xP, .long xW, .long xG])), (pa, .inl (g.2.1, 120, .inl u2)), (da, .inl (g.2.1, 121, .inl v))] H := hP
  have hD : va_D A [(h, .inr (0, [.int (nI rt), .int (nI lf), .ref pa, .ref da, .int (nI T), .int (nI P), .long (lN R0), .long xI, .long xP, .long xW, .long xG])), (pa, .inl (g.2.1, 120, .inl u2)), (da, .inl (g.2.1, 121, .inl v))] := hD
  refine z_ai (wa := []) (wc := [(h, .inr (0, [.int (nI rt), .int (nI lf), .ref pa, .ref da, .int (nI T), .int (nI P), .long (lN R0), .long xI, .long xP, .long xW, .long xG])), (pa, .inl (g.2.1, 120, .inl u2)), (da, .inl (g.2.1, 121, .inl v))]) (wb := []) (va_runV (As := [.long (lN (R0 * a0 / 100))]) (rest := []) ⟨hx, hb, hml, hown, hts⟩ (c_giveUp l g h pa da rt lf T P R0 xI xP xW xG u2 v (zSc a0 py) (zWr rt py T (T - P)) (R0 * a0 / 100) hT hPT hp2 hu2 hrt (hv P (Nat.le_refl P) hPT) hD0 H.size _ rfl) (cwV 1 hts gX0_keepPart_X0_giveUp rfl rfl rfl (by decide +kernel) ⟨Nat.le_of_ble_eq_true rfl, Nat.le_of_ble_eq_true rfl⟩) (zpreV (wa := []) (wc := [(h, .inr (0, [.int (nI rt), .int (nI lf), .ref pa, .ref da, .int (nI T), .int (nI P), .long (lN R0), .long xI, .long xP, .long xW, .long xG])), (pa, .inl (g.2.1, 120, .inl u2)), (da, .inl (g.2.1, 121, .inl v))]) (wb := []) (q0 := 0) (ci := 0) (T := TX0) (N := 11) hK hP hD rfl rfl) rfl rfl hl.1 rfl (lv_room (Nat.le_of_ble_eq_true rfl)) dX0_keepPart_14 ⟨Nat.le_of_ble_eq_true rfl, Nat.le_of_ble_eq_true rfl⟩) hP hD hS hA (fun r_3 w1 H locs hq hP hD hS => ?_)
  obtain ⟨v2, yG, rfl, hv2, rfl, hg⟩ := hq
  have hP : va_P g.1 vwCl [(h, .inr (0, [.int (nI rt), .int (nI lf), .ref pa, .ref da, .int (nI T), .int (nI P), .long (lN (R0 * a0 / 100)), .long xI, .long xP, .long xW, .long yG])), (pa, .inl (g.2.1, 120, .inl u2)), (da, .inl (g.2.1, 121, .inl v2))] H := hP
  have hD : va_D A [(h, .inr (0, [.int (nI rt), .int (nI lf), .ref pa, .ref da, .int (nI T), .int (nI P), .long (lN (R0 * a0 / 100)), .long xI, .long xP, .long xW, .long yG])), (pa, .inl (g.2.1, 120, .inl u2)), (da, .inl (g.2.1, 121, .inl v2))] := hD
  exact z_iret hx hb hr hP hK hD hS dX0_keepPart_17 hlocks (⟨rfl, (xI, xP, xW, yG, u2, v2), rfl, hI, hPd, hWn, (by rw [hg, hG]; rfl), hu2, hv2⟩)
end
section
/-! the class of a lease: it is made -/
section ZN
variable {p : Program} {l : Launch} {e : Env} {R : Room} {s : State} {m : MethodId} {args : Array Value} {below : List Frame} {meth : Method} {c : Code} {H : Heap} {locs : List Loc} {cells slots : Nat} {Q : State → Prop} {cc : ByteArray} {pc : Nat} {ls : Array Slot} {rest : List Value} {g : zG} {A : Nat → Prop} {ws : va_W}
theorem z_newI (hx : p.tables.exec = Jvm.exec) (hb : c.code = cc) (harr : (Cond.arrayClass .int).before args s = true) (hK : zK g s) (hP : va_P g.1 vwCl ws H) (hD : va_D A ws) (hS : va_S A s.heap H locs) (hA : ∀ q, s.heap.size ≤ q → A q) {n : Nat} (hn : n ≤ 1000000) (hcells : cells + 1 ≤ R.cells) (hslots : slots + n ≤ R.slots) (d : decode cc pc = .ok (.newarray .int, 2))
    (kk : ∀ (q : Nat) (H1 : Heap), va_P g.1 vwCl (ws ++ [(q, .inl (g.2.1, n, .inl (fun _ => 0)))]) H1 → va_D A (ws ++ [(q, .inl (g.2.1, n, .inl (fun _ => 0)))]) → va_S A s.heap H1 locs → W p l e R s m args below meth c H1 locs (cells + 1) (slots + n) Q (F0 m (pc + 2) ls (.ref q :: rest))) : W p l e R s m args below meth c H locs cells slots Q (F0 m pc ls (.int (nI n) :: rest)) := by
  refine va_newa (atype := .int) hx hb harr rfl hK hP hD hS hA (N' := n) (a0 := (n, .inl (fun _ => 0))) (fun _ => rfl) (nI_pos (by omega)) (nI_clamp (by omega)) (by show n * 4 ≤ _; omega) hcells hslots d ?_
  intro q cA H1 hK2 hP2 hD2 hS2
  have h1 : s.vm.findClass ("[" ++ (FieldType.int).toString) = some cA := (hK2.2 3 (cA, .int) rfl).2
  have h2 : s.vm.findClass ("[" ++ (FieldType.int).toString) = some g.2.1 := (hK.2 0 (g.2.1, .int) rfl).2
  obtain rfl : cA = g.2.1 := Option.some.inj (h1.symm.trans h2)
  exact kk q H1 hP2 hD2 hS2
end ZN
def zPy (x0 fr st : Nat) : Nat → Nat := fun j => if j < fr then 0 else x0 + st * (j / 12)
def zNew (T0 x0 fr st rt cs : Nat) : zS := (T0, 0, zPy x0 fr st, zWr rt (zPy x0 fr st) T0 (T0 - 0) + cs, 0, 0, 0, 0)
theorem zPy_le {x0 fr st j : Nat} (hx : x0 ≤ 10000) (hs : st ≤ 1000) (hj : j < 60) : zPy x0 fr st j ≤ 1000000 := by
  unfold zPy
  split
  · omega
  · have : st * (j / 12) ≤ 1000 * 5 := Nat.mul_le_mul hs (by omega)
    omega
theorem zInv_new {T0 x0 fr st rt lf cs : Nat} (hT : T0 ≤ 60) (hx : x0 ≤ 10000) (hs : st ≤ 1000) (hrt : rt ≤ 20000) (hlf : lf ≤ 120) (hcs : cs ≤ 10000) : zInv rt lf (zNew T0 x0 fr st rt cs) :=
  ⟨by omega, Nat.zero_le _, hrt, hlf, fun j _ h2 => zPy_le hx hs (by omega), by omega⟩
set_option maxHeartbeats 4000000 in
set_option maxRecDepth 100000 in
theorem c_LeaseInit (l : Launch) (g : zG) (h T0 x0 fr st rt lf cs : Nat) (hT0 : 1 ≤ T0 ∧ T0 ≤ 60) (hx0 : x0 ≤ 10000) (hfr : fr ≤ 12) (hst : st ≤ 1000) (hrt : rt ≤ 20000) (hlf : lf ≤ 120) (hcs : cs ≤ 10000) : zMv l yX0_init wsX0_init ({ frames := 2, cells := 2, slots := 241, locals := 46 } : Room) [.ref h, .int (nI T0), .int (nI x0), .int (nI fr), .int (nI st), .int (nI rt), .int (nI lf), .int (nI cs)] g [(h, .inr (0, [.int (nI 0), .int (nI 0), .null, .null, .int (nI 0), .int (nI 0), .long (lN 0), .long (lN 0), .long (lN 0), .long (lN 0), .long (lN 0)]))] (fun w => ∃ (pa da : Nat) (q' : zRaw), w = zLW g (h, pa, da) rt lf (zNew T0 x0 fr st rt cs) q' ∧ zCR rt (zNew T0 x0 fr st rt cs) q') 2 241 := by
  intro sz A hAe
  refine Met.ofW (cc := cX0_init) (maxL := 9) (ret := none) (by decide) rfl ?_
  intro p e s m args below meth c s₁ B hml hv
  obtain ⟨rfl, hsz, hP, hK, hD0⟩ := hv
  have hx := B.exec
  have hb := B.bytes
  have hr := B.returns
  have hts := atoms_spec (ws := wsX0_init) B.pre
  have hown : s.vm.findClass RX0 = some m.cls := findClass_of_methodNamed B.named
  have hlocks := B.notSynchronized
  have hin : meth.name = "<init>" := (name_of_methodNamed B.named B.method).1
  obtain ⟨hD, hA, hS⟩ := z_in hsz hAe hD0
  have hl := lv_entry ([.ref h, .int (nI T0), .int (nI x0), .int (nI fr), .int (nI st), .int (nI rt), .int (nI lf), .int (nI cs)]) (n := 9) (Nat.le_of_ble_eq_true rfl)
  rw [lg_entry_eq]
  generalize (lg_sl ([.ref h, .int (nI T0), .int (nI x0), .int (nI fr), .int (nI st), .int (nI rt), .int (nI lf), .int (nI cs)]) ++ List.replicate (9 - (lg_sl ([.ref h, .int (nI T0), .int (nI x0), .int (nI fr), .int (nI st), .int (nI rt), .int (nI lf), .int (nI cs)])).length) Slot.unset).toArray = ls at hl ⊢
  have hl : lv_has ls 9 [(0, .ref h), (1, .int (nI T0)), (2, .int (nI x0)), (3, .int (nI fr)), (4, .int (nI st)), (5, .int (nI rt)), (6, .int (nI lf)), (7, .int (nI cs))] := hl
  have hinX0 : ∀ w ∈ wsX00, w ∈ wsX0_init := by decide +kernel
  have hp : ∀ j, 0 ≤ j → j < T0 → zPy x0 fr st j ≤ 1000000 := fun j _ h2 => zPy_le hx0 hst (by omega)
  have hD0 := z_wb (r := rt) (P := 0) (j := 0) (by omega : T0 ≤ 120) hp (Nat.le_refl 0)
  refine lv_aload_n hx hb dX0_init_0 rfl (lv_at hl 0 rfl) ?_
  refine W.objInit hx hb hown (hts (.methodLink RX0 3 objectInit) (by decide +kernel)) (hts (.instanceMethod objectInit) (by decide +kernel)) (hts (.code objectInit ⟨#[0xb1]⟩ 1 none) (by decide +kernel)) rfl (hl.1.trans hml.symm) rfl dX0_init_1 (Nat.le_of_ble_eq_true rfl) (Nat.le_of_ble_eq_true rfl) ?_
  refine W.eq (g2 := F0 m 4 ls []) rfl ?_
  refine lv_aload_n hx hb dX0_init_4 rfl (lv_at hl 0 rfl) ?_
  refine lv_iload hx hb dX0_init_5 (lv_at hl 5 rfl) ?_
  refine va_putF (D := g.1) (ci := 0) (v := .int (nI rt)) (ty := .int) (C := RX0) (T := TX0) (N := 11) hx hb hts hinX0 tyX0 tyX0_ok nmX0 hown hK hP hD hS 0 rfl rfl 0 (by decide) (hts (.fieldLink RX0 9 "Usewise$Lease" "rate" "I") (by decide +kernel)) (fun _ h9 => h9) rfl hin rfl (by decide +kernel) rfl rfl (Nat.le_of_ble_eq_true rfl) dX0_init_7 (fun H locs hP hD hS => ?_)
  have hP : va_P g.1 vwCl [(h, .inr (0, [.int (nI rt), .int (nI 0), .null, .null, .int (nI 0), .int (nI 0), .long (lN 0), .long (lN 0), .long (lN 0), .long (lN 0), .long (lN 0)]))] H := hP
  have hD : va_D A [(h, .inr (0, [.int (nI rt), .int (nI 0), .null, .null, .int (nI 0), .int (nI 0), .long (lN 0), .long (lN 0), .long (lN 0), .long (lN 0), .long (lN 0)]))] := hD
  refine lv_aload_n hx hb dX0_init_10 rfl (lv_at hl 0 rfl) ?_
  refine lv_iload hx hb dX0_init_11 (lv_at hl 6 rfl) ?_
  refine va_putF (D := g.1) (ci := 0) (v := .int (nI lf)) (ty := .int) (C := RX0) (T := TX0) (N := 11) hx hb hts hinX0 tyX0 tyX0_ok nmX0 hown hK hP hD hS 0 rfl rfl 1 (by decide) (hts (.fieldLink RX0 15 "Usewise$Lease" "life" "I") (by decide +kernel)) (fun _ h9 => h9) rfl hin rfl (by decide +kernel) rfl rfl (Nat.le_of_ble_eq_true rfl) dX0_init_13 (fun H locs hP hD hS => ?_)
  have hP : va_P g.1 vwCl [(h, .inr (0, [.int (nI rt), .int (nI lf), .null, .null, .int (nI 0), .int (nI 0), .long (lN 0), .long (lN 0), .long (lN 0), .long (lN 0), .long (lN 0)]))] H := hP
  have hD : va_D A [(h, .inr (0, [.int (nI rt), .int (nI lf), .null, .null, .int (nI 0), .int (nI 0), .long (lN 0), .long (lN 0), .long (lN 0), .long (lN 0), .long (lN 0)]))] := hD
  refine lv_aload_n hx hb dX0_init_16 rfl (lv_at hl 0 rfl) ?_
  refine lv_iconst (v := nI 0) hx hb dX0_init_17 (by decide) ?_
  refine lv_iload_n hx hb dX0_init_18 rfl (lv_at hl 1 rfl) ?_
  refine lv_bipush (v := nI 120) hx hb dX0_init_19 (by decide) ?_
  refine va_mmin hx hb (hml.trans hl.1.symm) hown (hts (.methodLink RX0 18 Lib.Math.min.name) (by decide +kernel)) (hts (.static Lib.Math.min.name) (by decide +kernel)) (hts (.initialized "java/lang/Math") (by decide +kernel)) (hts (.code Lib.Math.min.name Lib.Math.min.code 2 (some .int)) (by decide +kernel)) (Nat.le_of_ble_eq_true rfl) (Nat.le_of_ble_eq_true rfl) (Nat.le_of_ble_eq_true rfl) (Nat.le_of_ble_eq_true rfl) dX0_init_21 ?_
  refine zi (y := nI T0) ((z_min (by omega) (by omega)).trans (by rw [Nat.min_eq_left (by omega)])) ?_
  refine va_mmax hx hb (hml.trans hl.1.symm) hown (hts (.methodLink RX0 24 Lib.Math.max.name) (by decide +kernel)) (hts (.static Lib.Math.max.name) (by decide +kernel)) (hts (.initialized "java/lang/Math") (by decide +kernel)) (hts (.code Lib.Math.max.name Lib.Math.max.code 2 (some .int)) (by decide +kernel)) (Nat.le_of_ble_eq_true rfl) (Nat.le_of_ble_eq_true rfl) (Nat.le_of_ble_eq_true rfl) (Nat.le_of_ble_eq_true rfl) dX0_init_24 ?_
  refine zi (y := nI T0) ((z_max (by omega) (by omega)).trans (by rw [Nat.max_eq_right (by omega)])) ?_
  refine va_put (D := g.1) (ci := 0) (v := .int (nI T0)) (ty := .int) (C := RX0) (T := TX0) (N := 11) hx hb hts hinX0 tyX0 tyX0_ok nmX0 hown hK hP hD hS 0 rfl rfl 4 (by decide) (hts (.fieldLink RX0 27 "Usewise$Lease" "term" "I") (by decide +kernel)) (fun _ h9 => h9) rfl (by decide +kernel) rfl rfl (Nat.le_of_ble_eq_true rfl) dX0_init_27 (fun H locs hP hD hS => ?_)
  have hP : va_P g.1 vwCl [(h, .inr (0, [.int (nI rt), .int (nI lf), .null, .null, .int (nI T0), .int (nI 0), .long (lN 0), .long (lN 0), .long (lN 0), .long (lN 0), .long (lN 0)]))] H := hP
  have hD : va_D A [(h, .inr (0, [.int (nI rt), .int (nI lf), .null, .null, .int (nI T0), .int (nI 0), .long (lN 0), .long (lN 0), .long (lN 0), .long (lN 0), .long (lN 0)]))] := hD
  refine lv_aload_n hx hb dX0_init_30 rfl (lv_at hl 0 rfl) ?_
  refine lv_bipush (v := nI 120) hx hb dX0_init_31 (by decide) ?_
  refine z_newI hx hb (hts (.arrayClass .int) (by decide +kernel)) hK hP hD hS hA (by omega) (Nat.le_of_ble_eq_true rfl) (Nat.le_of_ble_eq_true rfl) dX0_init_33 (fun pa H hP hD hS => ?_)
  have hP : va_P g.1 vwCl [(h, .inr (0, [.int (nI rt), .int (nI lf), .null, .null, .int (nI T0), .int (nI 0), .long (lN 0), .long (lN 0), .long (lN 0), .long (lN 0), .long (lN 0)])), (pa, .inl (g.2.1, 120, .inl (fun _ => 0)))] H := hP
  have hD : va_D A [(h, .inr (0, [.int (nI rt), .int (nI lf), .null, .null, .int (nI T0), .int (nI 0), .long (lN 0), .long (lN 0), .long (lN 0), .long (lN 0), .long (lN 0)])), (pa, .inl (g.2.1, 120, .inl (fun _ => 0)))] := hD
  refine va_putF (D := g.1) (ci := 0) (v := .ref pa) (ty := (.array .int)) (C := RX0) (T := TX0) (N := 11) hx hb hts hinX0 tyX0 tyX0_ok nmX0 hown hK hP hD hS 0 rfl rfl 2 (by decide) (hts (.fieldLink RX0 30 "Usewise$Lease" "payments" "[I") (by decide +kernel)) (fun _ h9 => h9) rfl hin rfl (by decide +kernel) rfl rfl (Nat.le_of_ble_eq_true rfl) dX0_init_35 (fun H locs hP hD hS => ?_)
  have hP : va_P g.1 vwCl [(h, .inr (0, [.int (nI rt), .int (nI lf), .ref pa, .null, .int (nI T0), .int (nI 0), .long (lN 0), .long (lN 0), .long (lN 0), .long (lN 0), .long (lN 0)])), (pa, .inl (g.2.1, 120, .inl (fun _ => 0)))] H := hP
  have hD : va_D A [(h, .inr (0, [.int (nI rt), .int (nI lf), .ref pa, .null, .int (nI T0), .int (nI 0), .long (lN 0), .long (lN 0), .long (lN 0), .long (lN 0), .long (lN 0)])), (pa, .inl (g.2.1, 120, .inl (fun _ => 0)))] := hD
  refine lv_aload_n hx hb dX0_init_38 rfl (lv_at hl 0 rfl) ?_
  refine lv_bipush (v := nI 121) hx hb dX0_init_39 (by decide) ?_
  refine z_newI hx hb (hts (.arrayClass .int) (by decide +kernel)) hK hP hD hS hA (by omega) (Nat.le_of_ble_eq_true rfl) (Nat.le_of_ble_eq_true rfl) dX0_init_41 (fun da H hP hD hS => ?_)
  have hP : va_P g.1 vwCl [(h, .inr (0, [.int (nI rt), .int (nI lf), .ref pa, .null, .int (nI T0), .int (nI 0), .long (lN 0), .long (lN 0), .long (lN 0), .long (lN 0), .long (lN 0)])), (pa, .inl (g.2.1, 120, .inl (fun _ => 0))), (da, .inl (g.2.1, 121, .inl (fun _ => 0)))] H := hP
  have hD : va_D A [(h, .inr (0, [.int (nI rt), .int (nI lf), .ref pa, .null, .int (nI T0), .int (nI 0), .long (lN 0), .long (lN 0), .long (lN 0), .long (lN 0), .long (lN 0)])), (pa, .inl (g.2.1, 120, .inl (fun _ => 0))), (da, .inl (g.2.1, 121, .inl (fun _ => 0)))] := hD
  refine va_putF (D := g.1) (ci := 0) (v := .ref da) (ty := (.array .int)) (C := RX0) (T := TX0) (N := 11) hx hb hts hinX0 tyX0 tyX0_ok nmX0 hown hK hP hD hS 0 rfl rfl 3 (by decide) (hts (.fieldLink RX0 34 "Usewise$Lease" "debts" "[I") (by decide +kernel)) (fun _ h9 => h9) rfl hin rfl (by decide +kernel) rfl rfl (Nat.le_of_ble_eq_true rfl) dX0_init_43 (fun H locs hP hD hS => ?_)
  have hP : va_P g.1 vwCl [(h, .inr (0, [.int (nI rt), .int (nI lf), .ref pa, .ref da, .int (nI T0), .int (nI 0), .long (lN 0), .long (lN 0), .long (lN 0), .long (lN 0), .long (lN 0)])), (pa, .inl (g.2.1, 120, .inl (fun _ => 0))), (da, .inl (g.2.1, 121, .inl (fun _ => 0)))] H := hP
  have hD : va_D A [(h, .inr (0, [.int (nI rt), .int (nI lf), .ref pa, .ref da, .int (nI T0), .int (nI 0), .long (lN 0), .long (lN 0), .long (lN 0), .long (lN 0), .long (lN 0)])), (pa, .inl (g.2.1, 120, .inl (fun _ => 0))), (da, .inl (g.2.1, 121, .inl (fun _ => 0)))] := hD
  refine W.widen (k := 2) (n := 241) (Nat.le_of_ble_eq_true rfl) (Nat.le_of_ble_eq_true rfl) ?_
  refine lv_iload_n hx hb dX0_init_46 rfl (lv_at hl 3 rfl) ?_
  refine lv_istore (lv' := [(8, .int (nI fr)), (0, .ref h), (1, .int (nI T0)), (2, .int (nI x0)), (3, .int (nI fr)), (4, .int (nI st)), (5, .int (nI rt)), (6, .int (nI lf)), (7, .int (nI cs))]) hx hb dX0_init_47 hl (by decide) rfl (fun ls hl => ?_)
  have loop : ∀ (n : Nat) (i : Nat) (u2 : Nat → Int32) (H : Heap) (locs : List Loc) (ls : Array Slot), 60 < i + n → fr ≤ i → i ≤ 60 → (∀ j, j < i → u2 j = nI (zPy x0 fr st j)) → va_P g.1 vwCl [(h, .inr (0, [.int (nI rt), .int (nI lf), .ref pa, .ref da, .int (nI T0), .int (nI 0), .long (lN 0), .long (lN 0), .long (lN 0), .long (lN 0), .long (lN 0)])), (pa, .inl (g.2.1, 120, .inl u2)), (da, .inl (g.2.1, 121, .inl (fun _ => 0)))] H → va_D A [(h, .inr (0, [.int (nI rt), .int (nI lf), .ref pa, .ref da, .int (nI T0), .int (nI 0), .long (lN 0), .long (lN 0), .long (lN 0), .long (lN 0), .long (lN 0)])), (pa, .inl (g.2.1, 120, .inl u2)), (da, .inl (g.2.1, 121, .inl (fun _ => 0)))] → va_S A s.heap H locs → lv_has ls 9 [(8, .int (nI i)), (0, .ref h), (1, .int (nI T0)), (2, .int (nI x0)), (3, .int (nI fr)), (4, .int (nI st)), (5, .int (nI rt)), (6, .int (nI lf)), (7, .int (nI cs))] → W p l e (headSpec wsX0_init ({ frames := 2, cells := 2, slots := 241, locals := 46 } : Room)).room s m ([.ref h, .int (nI T0), .int (nI x0), .int (nI fr), .int (nI st), .int (nI rt), .int (nI lf), .int (nI cs)] : List Value).toArray below meth c H locs 2 241 (MQ below (va_Qv (fun w => ∃ (pa da : Nat) (q' : zRaw), w = zLW g (h, pa, da) rt lf (zNew T0 x0 fr st rt cs) q' ∧ zCR rt (zNew T0 x0 fr st rt cs) q') (zOut g A) A) ([.ref h, .int (nI T0), .int (nI x0), .int (nI fr), .int (nI st), .int (nI rt), .int (nI lf), .int (nI cs)] : List Value).toArray s 2 241 A) (F0 m 49 ls []) := by
    intro n
    induction n with
    | zero =>
      intro i u2 H locs ls hn hi hi2 hu2 hP hD hS hl
      exfalso; omega
    | succ n ih =>
      intro i u2 H locs ls hn hi hi2 hu2 hP hD hS hl
      refine lv_iload hx hb dX0_init_49 (lv_at hl 0 rfl) ?_
      refine lv_aload_n hx hb dX0_init_51 rfl (lv_at hl 1 rfl) ?_
      refine va_get (D := g.1) (ci := 0) (v := .int (nI T0)) (C := RX0) (T := TX0) (N := 11) hx hb hts hinX0 hown hK hP 0 rfl rfl 4 (by decide) (hts (.fieldLink RX0 27 "Usewise$Lease" "term" "I") (by decide +kernel)) (fun _ h9 => h9) rfl dX0_init_52 ?_
      refine z_icmp_ge (tgt := 81) hx hb dX0_init_55 (by decide) (by omega) (by omega) (fun hc => ?_) (fun hc => ?_)
      · have hu : ∀ j, 0 ≤ j → j < T0 → u2 j = nI (zPy x0 fr st j) := fun j _ h2 => hu2 j (by omega)
        refine lv_aload_n hx hb dX0_init_81 rfl (lv_at hl 1 rfl) ?_
        refine z_av (wa := []) (wc := [(h, .inr (0, [.int (nI rt), .int (nI lf), .ref pa, .ref da, .int (nI T0), .int (nI 0), .long (lN 0), .long (lN 0), .long (lN 0), .long (lN 0), .long (lN 0)])), (pa, .inl (g.2.1, 120, .inl u2)), (da, .inl (g.2.1, 121, .inl (fun _ => 0)))]) (wb := []) (va_runV (As := []) (rest := []) ⟨hx, hb, hml, hown, hts⟩ (c_layDebts l g h pa da rt lf T0 0 (lN 0) (lN 0) (lN 0) (lN 0) (lN 0) u2 (fun _ => 0) (zPy x0 fr st) (by omega) (Nat.zero_le _) hp hu hrt H.size _ rfl) (cwV 0 hts gX0_init_X0_layDebts rfl rfl rfl (by decide +kernel) ⟨Nat.le_of_ble_eq_true rfl, Nat.le_of_ble_eq_true rfl⟩) (zpreV (wa := []) (wc := [(h, .inr (0, [.int (nI rt), .int (nI lf), .ref pa, .ref da, .int (nI T0), .int (nI 0), .long (lN 0), .long (lN 0), .long (lN 0), .long (lN 0), .long (lN 0)])), (pa, .inl (g.2.1, 120, .inl u2)), (da, .inl (g.2.1, 121, .inl (fun _ => 0)))]) (wb := []) (q0 := 0) (ci := 0) (T := TX0) (N := 11) hK hP hD rfl rfl) rfl rfl hl.1 rfl (lv_room (Nat.le_of_ble_eq_true rfl)) dX0_init_82 ⟨Nat.le_of_ble_eq_true rfl, Nat.le_of_ble_eq_true rfl⟩) hP hD hS hA (fun w1 H locs hq hP hD hS => ?_)
        obtain ⟨v2, rfl, hv2⟩ := hq
        have hP : va_P g.1 vwCl [(h, .inr (0, [.int (nI rt), .int (nI lf), .ref pa, .ref da, .int (nI T0), .int (nI 0), .long (lN 0), .long (lN 0), .long (lN 0), .long (lN 0), .long (lN 0)])), (pa, .inl (g.2.1, 120, .inl u2)), (da, .inl (g.2.1, 121, .inl v2))] H := hP
        have hD : va_D A [(h, .inr (0, [.int (nI rt), .int (nI lf), .ref pa, .ref da, .int (nI T0), .int (nI 0), .long (lN 0), .long (lN 0), .long (lN 0), .long (lN 0), .long (lN 0)])), (pa, .inl (g.2.1, 120, .inl u2)), (da, .inl (g.2.1, 121, .inl v2))] := hD
        refine lv_aload_n hx hb dX0_init_85 rfl (lv_at hl 1 rfl) ?_
        refine lv_aload_n hx hb dX0_init_86 rfl (lv_at hl 1 rfl) ?_
        refine z_ai (wa := []) (wc := [(h, .inr (0, [.int (nI rt), .int (nI lf), .ref pa, .ref da, .int (nI T0), .int (nI 0), .long (lN 0), .long (lN 0), .long (lN 0), .long (lN 0), .long (lN 0)])), (pa, .inl (g.2.1, 120, .inl u2)), (da, .inl (g.2.1, 121, .inl v2))]) (wb := []) (va_runV (As := []) (rest := [.ref h]) ⟨hx, hb, hml, hown, hts⟩ (c_debtNow l g h pa da rt lf T0 0 (lN 0) (lN 0) (lN 0) (lN 0) (lN 0) u2 v2 (by omega) H.size _ rfl) (cwV 0 hts gX0_init_X0_debtNow rfl rfl rfl (by decide +kernel) ⟨Nat.le_of_ble_eq_true rfl, Nat.le_of_ble_eq_true rfl⟩) (zpreV (wa := []) (wc := [(h, .inr (0, [.int (nI rt), .int (nI lf), .ref pa, .ref da, .int (nI T0), .int (nI 0), .long (lN 0), .long (lN 0), .long (lN 0), .long (lN 0), .long (lN 0)])), (pa, .inl (g.2.1, 120, .inl u2)), (da, .inl (g.2.1, 121, .inl v2))]) (wb := []) (q0 := 0) (ci := 0) (T := TX0) (N := 11) hK hP hD rfl rfl) rfl rfl hl.1 rfl (lv_room (Nat.le_of_ble_eq_true rfl)) dX0_init_87 ⟨Nat.le_of_ble_eq_true rfl, Nat.le_of_ble_eq_true rfl⟩) hP hD hS hA (fun r_2 w1 H locs hq hP hD hS => ?_)
        obtain ⟨rfl, rfl⟩ := hq
        have hP : va_P g.1 vwCl [(h, .inr (0, [.int (nI rt), .int (nI lf), .ref pa, .ref da, .int (nI T0), .int (nI 0), .long (lN 0), .long (lN 0), .long (lN 0), .long (lN 0), .long (lN 0)])), (pa, .inl (g.2.1, 120, .inl u2)), (da, .inl (g.2.1, 121, .inl v2))] H := hP
        have hD : va_D A [(h, .inr (0, [.int (nI rt), .int (nI lf), .ref pa, .ref da, .int (nI T0), .int (nI 0), .long (lN 0), .long (lN 0), .long (lN 0), .long (lN 0), .long (lN 0)])), (pa, .inl (g.2.1, 120, .inl u2)), (da, .inl (g.2.1, 121, .inl v2))] := hD
        refine zi (y := nI (zWr rt (zPy x0 fr st) T0 (T0 - 0))) (hv2 0 (by omega) (by omega)) ?_
        refine z_i2l hx hb dX0_init_90 (by omega) ?_
        refine lv_iload hx hb dX0_init_91 (lv_at hl 8 rfl) ?_
        refine z_i2l hx hb dX0_init_93 (by omega) ?_
        refine z_ladd hx hb dX0_init_94 ?_
        refine va_put (D := g.1) (ci := 0) (v := .long (lN (zWr rt (zPy x0 fr st) T0 (T0 - 0) + cs))) (ty := .long) (C := RX0) (T := TX0) (N := 11) hx hb hts hinX0 tyX0 tyX0_ok nmX0 hown hK hP hD hS 0 rfl rfl 6 (by decide) (hts (.fieldLink RX0 44 "Usewise$Lease" "right" "J") (by decide +kernel)) (fun _ h9 => h9) rfl (by decide +kernel) rfl rfl (Nat.le_of_ble_eq_true rfl) dX0_init_95 (fun H locs hP hD hS => ?_)
        have hP : va_P g.1 vwCl [(h, .inr (0, [.int (nI rt), .int (nI lf), .ref pa, .ref da, .int (nI T0), .int (nI 0), .long (lN (zWr rt (zPy x0 fr st) T0 (T0 - 0) + cs)), .long (lN 0), .long (lN 0), .long (lN 0), .long (lN 0)])), (pa, .inl (g.2.1, 120, .inl u2)), (da, .inl (g.2.1, 121, .inl v2))] H := hP
        have hD : va_D A [(h, .inr (0, [.int (nI rt), .int (nI lf), .ref pa, .ref da, .int (nI T0), .int (nI 0), .long (lN (zWr rt (zPy x0 fr st) T0 (T0 - 0) + cs)), .long (lN 0), .long (lN 0), .long (lN 0), .long (lN 0)])), (pa, .inl (g.2.1, 120, .inl u2)), (da, .inl (g.2.1, 121, .inl v2))] := hD
        exact z_vret hx hb hr hP hK hD hS dX0_init_98 hlocks (⟨pa, da, (lN 0, lN 0, lN 0, lN 0, u2, v2), rfl, lN_i 0, lN_i 0, lN_i 0, lN_i 0, hu, hv2⟩)
      · refine lv_aload_n hx hb dX0_init_58 rfl (lv_at hl 1 rfl) ?_
        refine va_get (D := g.1) (ci := 0) (v := .ref pa) (C := RX0) (T := TX0) (N := 11) hx hb hts hinX0 hown hK hP 0 rfl rfl 2 (by decide) (hts (.fieldLink RX0 30 "Usewise$Lease" "payments" "[I") (by decide +kernel)) (fun _ h9 => h9) rfl dX0_init_59 ?_
        refine lv_iload hx hb dX0_init_62 (lv_at hl 0 rfl) ?_
        refine lv_iload_n hx hb dX0_init_64 rfl (lv_at hl 3 rfl) ?_
        refine lv_iload hx hb dX0_init_65 (lv_at hl 5 rfl) ?_
        refine lv_iload hx hb dX0_init_67 (lv_at hl 0 rfl) ?_
        refine lv_bipush (v := nI 12) hx hb dX0_init_69 (by decide) ?_
        refine z_idiv hx hb dX0_init_71 (by omega) (by omega) (by omega) ?_
        refine z_imul hx hb dX0_init_72 ?_
        refine z_iadd hx hb dX0_init_73 ?_
        refine z_iast hx hb hK hP hD hS 1 0 rfl rfl (by omega) (by decide) dX0_init_74 (fun H locs hP hD hS => ?_)
        have hP : va_P g.1 vwCl [(h, .inr (0, [.int (nI rt), .int (nI lf), .ref pa, .ref da, .int (nI T0), .int (nI 0), .long (lN 0), .long (lN 0), .long (lN 0), .long (lN 0), .long (lN 0)])), (pa, .inl (g.2.1, 120, .inl (upd u2 i (nI (x0 + (st * (i / 12))))))), (da, .inl (g.2.1, 121, .inl (fun _ => 0)))] H := hP
        have hD : va_D A [(h, .inr (0, [.int (nI rt), .int (nI lf), .ref pa, .ref da, .int (nI T0), .int (nI 0), .long (lN 0), .long (lN 0), .long (lN 0), .long (lN 0), .long (lN 0)])), (pa, .inl (g.2.1, 120, .inl (upd u2 i (nI (x0 + (st * (i / 12))))))), (da, .inl (g.2.1, 121, .inl (fun _ => 0)))] := hD
        refine z_iinc (lv' := [(8, .int (nI (i + 1))), (0, .ref h), (1, .int (nI T0)), (2, .int (nI x0)), (3, .int (nI fr)), (4, .int (nI st)), (5, .int (nI rt)), (6, .int (nI lf)), (7, .int (nI cs))]) hx hb dX0_init_75 hl (k := 0) rfl (by decide) rfl (fun ls hl => ?_)
        refine lv_goto (tgt := 49) hx hb dX0_init_78 (by decide) ?_
        exact ih (i + 1) (upd u2 i (nI (x0 + (st * (i / 12))))) H _ _ (by omega) (by omega) (by omega) (fun j h1 => if hj : j = i then (by rw [hj, z_upd_s]; unfold zPy; rw [if_neg (by omega)]) else (by rw [z_upd_n _ _ hj]; exact hu2 j (by omega))) hP hD hS (lv_sub hl [0, 1, 2, 3, 4, 5, 6, 7, 8] rfl)
  exact loop 61 fr _ H _ _ (by omega) (by omega) (by omega) (fun j h1 => by unfold zPy; rw [if_pos h1]; rfl) hP hD hS (lv_sub hl [0, 1, 2, 3, 4, 5, 6, 7, 8] rfl)
end
section
/-! the class Usewise: its own reads and throws -/
section ZU
variable {p : Program} {l : Launch} {e : Env} {R : Room} {s : State} {m : MethodId} {args : Array Value} {below : List Frame} {meth : Method} {c : Code} {H : Heap} {locs : List Loc} {cells slots : Nat} {Q : State → Prop} {cc : ByteArray} {pc : Nat} {ls : Array Slot} {rest : List Value} {D : va_G} {cl : List vw_C} {A : Nat → Prop} {a : Nat} {tys : List (ClassId × FieldType)} {ws : va_W} {H0 : Heap}
theorem z_aald (hx : p.tables.exec = Jvm.exec) (hb : c.code = cc) (hK : va_K D cl tys s) (hP : va_P D cl ws H) (q0 t0 : Nat) {cA : ClassId} {C : String} {n i : Nat} {f : Nat → Option Nat} (ha : ws[q0]? = some (a, .inl (cA, n, .inr (.inr (.inr (.inr f)))))) (ht : tys[t0]? = some (cA, .object C)) (hi : i < n) (hn : n < 2 ^ 31) (d : decode cc pc = .ok (.aaload, 1)) (k : W p l e R s m args below meth c H locs cells slots Q (F0 m (pc + 1) ls (va_rf (f i) :: rest))) : W p l e R s m args below meth c H locs cells slots Q (F0 m pc ls (.int (nI i) :: .ref a :: rest)) := va_aldq hx hb hK hP q0 t0 ha ht (vp_in_nI hi hn) d (by rw [nI_clamp (Nat.lt_trans hi hn)]; exact k)
theorem zqs {h : Nat} (k : W p l e R s m args below meth c H locs cells slots Q (F0 m pc ls (.ref h :: rest))) : W p l e R s m args below meth c H locs cells slots Q (F0 m pc ls (va_rf (some h) :: rest)) := k
theorem zqn (k : W p l e R s m args below meth c H locs cells slots Q (F0 m pc ls (.null :: rest))) : W p l e R s m args below meth c H locs cells slots Q (F0 m pc ls (va_rf none :: rest)) := k
end ZU
theorem zbw_IAE : ∀ w ∈ (vx_atS "Usewise" 115 "java/lang/IllegalArgumentException" ["java/lang/RuntimeException", "java/lang/Exception"]).filter (fun w => !goodWord w), w ∈ zNW := by decide +kernel
theorem zot_IAE_111 : ∀ w ∈ Cond.classLink "Usewise" 111 "java/lang/IllegalArgumentException" :: Cond.initialized "java/lang/IllegalArgumentException" :: vx_atS "Usewise" 115 "java/lang/IllegalArgumentException" ["java/lang/RuntimeException", "java/lang/Exception"], vx_ot w = true := by decide +kernel
theorem zbw_ISE : ∀ w ∈ (vx_atS "Usewise" 27 "java/lang/IllegalStateException" ["java/lang/RuntimeException", "java/lang/Exception"]).filter (fun w => !goodWord w), w ∈ zNW := by decide +kernel
theorem zot_ISE_23 : ∀ w ∈ Cond.classLink "Usewise" 23 "java/lang/IllegalStateException" :: Cond.initialized "java/lang/IllegalStateException" :: vx_atS "Usewise" 27 "java/lang/IllegalStateException" ["java/lang/RuntimeException", "java/lang/Exception"], vx_ot w = true := by decide +kernel
theorem zbw_IOE : ∀ w ∈ (vx_atS "Usewise" 83 "java/lang/IndexOutOfBoundsException" ["java/lang/RuntimeException", "java/lang/Exception"]).filter (fun w => !goodWord w), w ∈ zNW := by decide +kernel
theorem zot_IOE_79 : ∀ w ∈ Cond.classLink "Usewise" 79 "java/lang/IndexOutOfBoundsException" :: Cond.initialized "java/lang/IndexOutOfBoundsException" :: vx_atS "Usewise" 83 "java/lang/IndexOutOfBoundsException" ["java/lang/RuntimeException", "java/lang/Exception"], vx_ot w = true := by decide +kernel
theorem z_nle_of_lt {a b : Int32} (h : a < b) : ¬ b ≤ a := by rw [Int32.lt_iff_toInt_lt] at h; rw [Int32.le_iff_toInt_le]; omega
theorem z_le_of_nlt {a b : Int32} (h : ¬ a < b) : b ≤ a := by rw [Int32.lt_iff_toInt_lt] at h; rw [Int32.le_iff_toInt_le]; omega
set_option maxHeartbeats 4000000 in
set_option maxRecDepth 100000 in
theorem c_mustBeWithin (l : Launch) (hst : l.stackTraces = false) (g : zG) (x0 a0 b0 : Int32)  : zXv l yX1_mustBeWithin wsX1_mustBeWithin ({ frames := 6, cells := 1, slots := 6, locals := 90 } : Room) [.int x0, .int a0, .int b0] g [] (fun w => (a0 ≤ x0 ∧ x0 ≤ b0) ∧ w = []) (fun E => E = "java/lang/IllegalArgumentException" ∧ ¬ (a0 ≤ x0 ∧ x0 ≤ b0)) 1 6 := by
  intro sz A hAe
  refine vx_ofW (cc := cX1_mustBeWithin) (maxL := 3) (ret := none) (by decide) rfl ?_
  intro p e s m args below meth c s₁ B hml hout hv
  obtain ⟨rfl, ⟨hsz, hP, hK, hD0⟩, hX⟩ := hv
  have hx := B.exec
  have hb := B.bytes
  have hr := B.returns
  have hts := atoms_spec (ws := wsX1_mustBeWithin) B.pre
  have hown : s.vm.findClass RX1 = some m.cls := findClass_of_methodNamed B.named
  have hlocks := B.notSynchronized
  obtain ⟨hD, hA, hS⟩ := z_in hsz hAe hD0
  have hl := lv_entry ([.int x0, .int a0, .int b0]) (n := 3) (Nat.le_of_ble_eq_true rfl)
  rw [lg_entry_eq]
  generalize (lg_sl ([.int x0, .int a0, .int b0]) ++ List.replicate (3 - (lg_sl ([.int x0, .int a0, .int b0])).length) Slot.unset).toArray = ls at hl ⊢
  have hl : lv_has ls 3 [(0, .int x0), (1, .int a0), (2, .int b0)] := hl
  refine lv_iload_n hx hb dX1_mustBeWithin_0 rfl (lv_at hl 0 rfl) ?_
  refine lv_iload_n hx hb dX1_mustBeWithin_1 rfl (lv_at hl 1 rfl) ?_
  refine lv_icmp_lt (tgt := 10) hx hb dX1_mustBeWithin_2 (by decide) (fun hc => ?_) (fun hc => ?_)
  · exact z_throw (text := "out of range") (Ts := wsX1_mustBeWithin) hx hb hst hown (by decide +kernel) hts (by decide +kernel) (by decide +kernel) (by decide +kernel) zbw_IAE zot_IAE_111 (by decide +kernel) hX hA hP hK hD hS (hl.1.trans hml.symm) dX1_mustBeWithin_10 dX1_mustBeWithin_13 dX1_mustBeWithin_14 dX1_mustBeWithin_16 dX1_mustBeWithin_19 hout (Nat.le_of_ble_eq_true rfl) (Nat.le_of_ble_eq_true rfl) (Nat.le_of_ble_eq_true rfl) (Nat.le_of_ble_eq_true rfl) hlocks (⟨rfl, fun z => z_nle_of_lt hc z.1⟩) (Nat.le_of_ble_eq_true rfl) (Nat.le_of_ble_eq_true rfl)
  · refine lv_iload_n hx hb dX1_mustBeWithin_5 rfl (lv_at hl 0 rfl) ?_
    refine lv_iload_n hx hb dX1_mustBeWithin_6 rfl (lv_at hl 2 rfl) ?_
    refine lv_icmp_le (tgt := 20) hx hb dX1_mustBeWithin_7 (by decide) (fun hd => ?_) (fun hd => ?_)
    · refine W.widen (k := 1) (n := 6) (by omega) (by omega) ?_
      exact z_xvret hx hb hr hP hK hD hS dX1_mustBeWithin_20 hlocks (⟨⟨z_le_of_nlt hc, hd⟩, rfl⟩)
    · exact z_throw (text := "out of range") (Ts := wsX1_mustBeWithin) hx hb hst hown (by decide +kernel) hts (by decide +kernel) (by decide +kernel) (by decide +kernel) zbw_IAE zot_IAE_111 (by decide +kernel) hX hA hP hK hD hS (hl.1.trans hml.symm) dX1_mustBeWithin_10 dX1_mustBeWithin_13 dX1_mustBeWithin_14 dX1_mustBeWithin_16 dX1_mustBeWithin_19 hout (Nat.le_of_ble_eq_true rfl) (Nat.le_of_ble_eq_true rfl) (Nat.le_of_ble_eq_true rfl) (Nat.le_of_ble_eq_true rfl) hlocks (⟨rfl, fun z => hd z.2⟩) (Nat.le_of_ble_eq_true rfl) (Nat.le_of_ble_eq_true rfl)
end
section
/-! the class Usewise: which lease -/
/-- no lease of that number -/
def zNo (rows : Nat → Option Nat) (x : Int32) : Prop := ∀ j h, j < 6 → x = nI j → rows j ≠ some h
theorem zNo_neg {rows : Nat → Option Nat} {x : Int32} (h : x < 0) : zNo rows x := fun j _ hj e _ => nI_pos (by omega) (e ▸ h)
theorem zNo_big {rows : Nat → Option Nat} {x : Int32} (h : ¬ x < nI 6) : zNo rows x := fun j _ hj e _ => h (e ▸ nI_lt hj (by decide))
theorem zNo_none {rows : Nat → Option Nat} {j : Nat} (hj : j < 6) (h : rows j = none) : zNo rows (nI j) := fun i h' hi e => by
  rw [(nI_eq (by omega) (by omega)).mp e] at h
  rw [h]; exact fun z => nomatch z
theorem z_nlt_of_le {a b : Int32} (h : b ≤ a) : ¬ a < b := by rw [Int32.lt_iff_toInt_lt]; rw [Int32.le_iff_toInt_le] at h; omega
set_option maxHeartbeats 4000000 in
set_option maxRecDepth 100000 in
theorem c_leaseOf (l : Launch) (hst : l.stackTraces = false) (g : zG) (ua ar cnt : Nat) (rows : Nat → Option Nat) (x0 : Int32)  : zXq l yX1_leaseOf wsX1_leaseOf ({ frames := 6, cells := 1, slots := 6, locals := 90 } : Room) [.ref ua, .int x0] g [(ua, .inr (1, [.ref ar, .int (nI cnt)])), (ar, .inl (g.2.2.1, 6, .inr (.inr (.inr (.inr rows)))))] (fun q w => (∃ j h, j < 6 ∧ x0 = nI j ∧ rows j = some h ∧ q = some h) ∧ w = [(ua, .inr (1, [.ref ar, .int (nI cnt)])), (ar, .inl (g.2.2.1, 6, .inr (.inr (.inr (.inr rows)))))]) (fun E => E = "java/lang/IndexOutOfBoundsException" ∧ zNo rows x0) 1 6 := by
  intro sz A hAe
  refine vx_ofW (cc := cX1_leaseOf) (maxL := 3) (ret := some (.object "Usewise$Lease")) (by decide) rfl ?_
  intro p e s m args below meth c s₁ B hml hout hv
  obtain ⟨rfl, ⟨hsz, hP, hK, hD0⟩, hX⟩ := hv
  have hx := B.exec
  have hb := B.bytes
  have hr := B.returns
  have hts := atoms_spec (ws := wsX1_leaseOf) B.pre
  have hown : s.vm.findClass RX1 = some m.cls := findClass_of_methodNamed B.named
  have hlocks := B.notSynchronized
  obtain ⟨hD, hA, hS⟩ := z_in hsz hAe hD0
  have hl := lv_entry ([.ref ua, .int x0]) (n := 3) (Nat.le_of_ble_eq_true rfl)
  rw [lg_entry_eq]
  generalize (lg_sl ([.ref ua, .int x0]) ++ List.replicate (3 - (lg_sl ([.ref ua, .int x0])).length) Slot.unset).toArray = ls at hl ⊢
  have hl : lv_has ls 3 [(0, .ref ua), (1, .int x0)] := hl
  have hinX1 : ∀ w ∈ wsX10, w ∈ wsX1_leaseOf := by decide +kernel
  refine lv_iload_n hx hb dX1_leaseOf_0 rfl (lv_at hl 1 rfl) ?_
  refine lv_if_lt (tgt := 13) hx hb dX1_leaseOf_1 (by decide) (fun hc => ?_) (fun hc => ?_)
  · exact z_throw (text := "no such lease") (Ts := wsX1_leaseOf) hx hb hst hown (by decide +kernel) hts (by decide +kernel) (by decide +kernel) (by decide +kernel) zbw_IOE zot_IOE_79 (by decide +kernel) hX hA hP hK hD hS (hl.1.trans hml.symm) dX1_leaseOf_13 dX1_leaseOf_16 dX1_leaseOf_17 dX1_leaseOf_19 dX1_leaseOf_22 hout (Nat.le_of_ble_eq_true rfl) (Nat.le_of_ble_eq_true rfl) (Nat.le_of_ble_eq_true rfl) (Nat.le_of_ble_eq_true rfl) hlocks (⟨rfl, zNo_neg hc⟩) (Nat.le_of_ble_eq_true rfl) (Nat.le_of_ble_eq_true rfl)
  · refine lv_iload_n hx hb dX1_leaseOf_4 rfl (lv_at hl 1 rfl) ?_
    refine lv_aload_n hx hb dX1_leaseOf_5 rfl (lv_at hl 0 rfl) ?_
    refine va_get (D := g.1) (ci := 1) (v := .ref ar) (C := RX1) (T := TX1) (N := 2) hx hb hts hinX1 hown hK hP 0 rfl rfl 0 (by decide) (hts (.fieldLink RX1 11 "Usewise" "leases" "[LUsewise$Lease;") (by decide +kernel)) (fun _ h9 => h9) rfl dX1_leaseOf_6 ?_
    refine va_alen (v := nI 6) hx hb hK hP 1 1 rfl rfl rfl dX1_leaseOf_9 ?_
    refine lv_icmp_lt (tgt := 23) hx hb dX1_leaseOf_10 (by decide) (fun hd => ?_) (fun hd => ?_)
    · obtain ⟨j, hj, rfl⟩ : ∃ j : Nat, j < 6 ∧ x0 = nI j := by
        rcases pk_ix x0 (n := 6) (by decide) with z | z | z
        · exact absurd z hc
        · exact absurd hd (z_nlt_of_le z)
        · exact z
      refine lv_aload_n hx hb dX1_leaseOf_23 rfl (lv_at hl 0 rfl) ?_
      refine va_get (D := g.1) (ci := 1) (v := .ref ar) (C := RX1) (T := TX1) (N := 2) hx hb hts hinX1 hown hK hP 0 rfl rfl 0 (by decide) (hts (.fieldLink RX1 11 "Usewise" "leases" "[LUsewise$Lease;") (by decide +kernel)) (fun _ h9 => h9) rfl dX1_leaseOf_24 ?_
      refine lv_iload_n hx hb dX1_leaseOf_27 rfl (lv_at hl 1 rfl) ?_
      refine z_aald hx hb hK hP 1 1 rfl rfl hj (by decide) dX1_leaseOf_28 ?_
      rcases hrow : rows j with _ | h
      · refine zqn ?_
        refine lv_astore_nN (lv' := [(2, .null), (0, .ref ua), (1, .int (nI j))]) hx hb dX1_leaseOf_29 rfl hl (by decide) rfl (fun ls hl => ?_)
        refine lv_aload_nN hx hb dX1_leaseOf_30 rfl (lv_at hl 0 rfl) ?_
        refine lv_ifnonnullN hx hb dX1_leaseOf_31 ?_
        exact z_throw (text := "no such lease") (Ts := wsX1_leaseOf) hx hb hst hown (by decide +kernel) hts (by decide +kernel) (by decide +kernel) (by decide +kernel) zbw_IOE zot_IOE_79 (by decide +kernel) hX hA hP hK hD hS (hl.1.trans hml.symm) dX1_leaseOf_34 dX1_leaseOf_37 dX1_leaseOf_38 dX1_leaseOf_40 dX1_leaseOf_43 hout (Nat.le_of_ble_eq_true rfl) (Nat.le_of_ble_eq_true rfl) (Nat.le_of_ble_eq_true rfl) (Nat.le_of_ble_eq_true rfl) hlocks (⟨rfl, zNo_none hj hrow⟩) (Nat.le_of_ble_eq_true rfl) (Nat.le_of_ble_eq_true rfl)
      · refine zqs ?_
        refine lv_astore_n (lv' := [(2, .ref h), (0, .ref ua), (1, .int (nI j))]) hx hb dX1_leaseOf_29 rfl hl (by decide) rfl (fun ls hl => ?_)
        refine lv_aload_n hx hb dX1_leaseOf_30 rfl (lv_at hl 0 rfl) ?_
        refine lv_ifnonnull (tgt := 44) hx hb dX1_leaseOf_31 (by decide) ?_
        refine lv_aload_n hx hb dX1_leaseOf_44 rfl (lv_at hl 0 rfl) ?_
        refine W.widen (k := 1) (n := 6) (by omega) (by omega) ?_
        exact z_xqret hx hb hr hP hK hD hS dX1_leaseOf_45 hlocks (⟨⟨j, h, hj, rfl, hrow, rfl⟩, rfl⟩)
    · exact z_throw (text := "no such lease") (Ts := wsX1_leaseOf) hx hb hst hown (by decide +kernel) hts (by decide +kernel) (by decide +kernel) (by decide +kernel) zbw_IOE zot_IOE_79 (by decide +kernel) hX hA hP hK hD hS (hl.1.trans hml.symm) dX1_leaseOf_13 dX1_leaseOf_16 dX1_leaseOf_17 dX1_leaseOf_19 dX1_leaseOf_22 hout (Nat.le_of_ble_eq_true rfl) (Nat.le_of_ble_eq_true rfl) (Nat.le_of_ble_eq_true rfl) (Nat.le_of_ble_eq_true rfl) hlocks (⟨rfl, zNo_big hd⟩) (Nat.le_of_ble_eq_true rfl) (Nat.le_of_ble_eq_true rfl)

set_option maxHeartbeats 4000000 in
set_option maxRecDepth 100000 in
theorem c_mustGoOn (l : Launch) (hst : l.stackTraces = false) (g : zG) (h pa da rt lf T P : Nat) (R xI xP xW xG : Int64) (u v : Nat → Int32) (hPT : P ≤ T) (hT : T ≤ 120) : zXv l yX1_mustGoOn wsX1_mustGoOn ({ frames := 6, cells := 1, slots := 6, locals := 90 } : Room) [.ref h] g [(h, .inr (0, [.int (nI rt), .int (nI lf), .ref pa, .ref da, .int (nI T), .int (nI P), .long R, .long xI, .long xP, .long xW, .long xG])), (pa, .inl (g.2.1, 120, .inl u)), (da, .inl (g.2.1, 121, .inl v))] (fun w => P < T ∧ w = [(h, .inr (0, [.int (nI rt), .int (nI lf), .ref pa, .ref da, .int (nI T), .int (nI P), .long R, .long xI, .long xP, .long xW, .long xG])), (pa, .inl (g.2.1, 120, .inl u)), (da, .inl (g.2.1, 121, .inl v))]) (fun E => E = "java/lang/IllegalStateException" ∧ P = T) 1 6 := by
  intro sz A hAe
  refine vx_ofW (cc := cX1_mustGoOn) (maxL := 1) (ret := none) (by decide) rfl ?_
  intro p e s m args below meth c s₁ B hml hout hv
  obtain ⟨rfl, ⟨hsz, hP, hK, hD0⟩, hX⟩ := hv
  have hx := B.exec
  have hb := B.bytes
  have hr := B.returns
  have hts := atoms_spec (ws := wsX1_mustGoOn) B.pre
  have hown : s.vm.findClass RX1 = some m.cls := findClass_of_methodNamed B.named
  have hlocks := B.notSynchronized
  obtain ⟨hD, hA, hS⟩ := z_in hsz hAe hD0
  have hl := lv_entry ([.ref h]) (n := 1) (Nat.le_of_ble_eq_true rfl)
  rw [lg_entry_eq]
  generalize (lg_sl ([.ref h]) ++ List.replicate (1 - (lg_sl ([.ref h])).length) Slot.unset).toArray = ls at hl ⊢
  have hl : lv_has ls 1 [(0, .ref h)] := hl
  have hinX0 : ∀ w ∈ wsX00, w ∈ wsX1_mustGoOn := by decide +kernel
  refine lv_aload_n hx hb dX1_mustGoOn_0 rfl (lv_at hl 0 rfl) ?_
  refine z_ai (wa := []) (wc := [(h, .inr (0, [.int (nI rt), .int (nI lf), .ref pa, .ref da, .int (nI T), .int (nI P), .long R, .long xI, .long xP, .long xW, .long xG])), (pa, .inl (g.2.1, 120, .inl u)), (da, .inl (g.2.1, 121, .inl v))]) (wb := []) (va_runV (As := []) (rest := []) ⟨hx, hb, hml, hown, hts⟩ (c_monthsLeft l g h pa da rt lf T P R xI xP xW xG u v hPT s.heap.size _ rfl) (cwV 0 hts gX1_mustGoOn_X0_monthsLeft rfl rfl rfl (by decide +kernel) ⟨Nat.le_of_ble_eq_true rfl, Nat.le_of_ble_eq_true rfl⟩) (zpreV (wa := []) (wc := [(h, .inr (0, [.int (nI rt), .int (nI lf), .ref pa, .ref da, .int (nI T), .int (nI P), .long R, .long xI, .long xP, .long xW, .long xG])), (pa, .inl (g.2.1, 120, .inl u)), (da, .inl (g.2.1, 121, .inl v))]) (wb := []) (q0 := 0) (ci := 0) (T := TX0) (N := 11) hK hP hD rfl rfl) rfl rfl hl.1 rfl (lv_room (Nat.le_of_ble_eq_true rfl)) dX1_mustGoOn_1 ⟨Nat.le_of_ble_eq_true rfl, Nat.le_of_ble_eq_true rfl⟩) hP hD hS hA (fun r_1 w1 H locs hq hP hD hS => ?_)
  obtain ⟨rfl, rfl⟩ := hq
  have hP : va_P g.1 vwCl [(h, .inr (0, [.int (nI rt), .int (nI lf), .ref pa, .ref da, .int (nI T), .int (nI P), .long R, .long xI, .long xP, .long xW, .long xG])), (pa, .inl (g.2.1, 120, .inl u)), (da, .inl (g.2.1, 121, .inl v))] H := hP
  have hD : va_D A [(h, .inr (0, [.int (nI rt), .int (nI lf), .ref pa, .ref da, .int (nI T), .int (nI P), .long R, .long xI, .long xP, .long xW, .long xG])), (pa, .inl (g.2.1, 120, .inl u)), (da, .inl (g.2.1, 121, .inl v))] := hD
  refine z_if_ne (tgt := 17) hx hb dX1_mustGoOn_4 (by decide) (by omega) (fun hc => ?_) (fun hc => ?_)
  · refine W.widen (k := 1) (n := 6) (by omega) (by omega) ?_
    exact z_xvret hx hb hr hP hK hD hS dX1_mustGoOn_17 hlocks (⟨by omega, rfl⟩)
  · exact z_throw (text := "the lease is over") (Ts := wsX1_mustGoOn) hx hb hst hown (by decide +kernel) hts (by decide +kernel) (by decide +kernel) (by decide +kernel) zbw_ISE zot_ISE_23 (by decide +kernel) hX hA hP hK hD hS (hl.1.trans hml.symm) dX1_mustGoOn_7 dX1_mustGoOn_10 dX1_mustGoOn_11 dX1_mustGoOn_13 dX1_mustGoOn_16 hout (Nat.le_of_ble_eq_true rfl) (Nat.le_of_ble_eq_true rfl) (Nat.le_of_ble_eq_true rfl) (Nat.le_of_ble_eq_true rfl) hlocks (⟨rfl, by omega⟩) (Nat.le_of_ble_eq_true rfl) (Nat.le_of_ble_eq_true rfl)
end
