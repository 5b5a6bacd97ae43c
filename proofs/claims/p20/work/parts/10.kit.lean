/-! rows of this claim's own: numbers as Nat, worlds in blocks, one shape of contract -/
abbrev zG : Type := va_G × ClassId × ClassId × ClassId
abbrev zT (g : zG) : List (ClassId × FieldType) := [(g.2.1, .int), (g.2.2.1, .object "Usewise$Lease"), (g.2.2.2, .int)]
def zK (g : zG) (U : State) : Prop := va_K g.1 vwCl (zT g) U
theorem zK.moved {g : zG} {u U : State} (hvm : u.vm.Alike U.vm) (h : zK g u) : zK g U := va_K.moved hvm h
def zIn (g : zG) (ws : va_W) (sz : Nat) (U : State) : Prop := U.heap.size = sz ∧ va_P g.1 vwCl ws U.heap ∧ zK g U ∧ va_D (fun _ => True) ws
def zOut (g : zG) (A : Nat → Prop) (ws : va_W) (t : State) : Prop := va_P g.1 vwCl ws t.heap ∧ zK g t ∧ va_D A ws
/-- the words beside the tables' good ones -/
def zMN (C : String) : MethodName := ⟨C, "<init>", "(Ljava/lang/String;)V"⟩
def zNW : List Cond := [.declares (zMN "java/lang/RuntimeException"), .declares (zMN "java/lang/Exception"), .declares (zMN "java/lang/Throwable"), .castable "java/lang/IllegalArgumentException" "java/lang/IllegalArgumentException", .castable "java/lang/IllegalStateException" "java/lang/IllegalStateException", .castable "java/lang/IndexOutOfBoundsException" "java/lang/IndexOutOfBoundsException", .fieldLinkNest "Usewise" 87 "Usewise$Lease" "rate" "I" "Usewise", .fieldLinkNest "Usewise" 94 "Usewise$Lease" "right" "J" "Usewise", .fieldLinkNest "Usewise" 98 "Usewise$Lease" "interest" "J" "Usewise", .fieldLinkNest "Usewise" 101 "Usewise$Lease" "written" "J" "Usewise", .fieldLinkNest "Usewise" 104 "Usewise$Lease" "paid" "J" "Usewise", .fieldLinkNest "Usewise" 107 "Usewise$Lease" "gains" "J" "Usewise"]
def zSR : List (Nat × String) := [(113, "out of range"), (116, "the lease is over"), (118, "no such lease"), (25, "there are as many leases as there can be"), (48, "a payment would be too high"), (61, "there would be too many months in all"), (70, "no month would be left to come")]
def zNC : List (String × String) := []
def zV (U : State) : Prop := (∀ w ∈ zNW, va_Nw w U) ∧ (∀ q ∈ zSR, ∃ a : Nat, vk_R "Usewise" q.1 q.2 a U) ∧ va_AO "Usewise$Lease" U ∧ ∀ q ∈ zNC, va_Nc q.1 q.2 U
def zX (A : Nat → Prop) (U : State) (H : Heap) : Prop := vx_Zq Bundle.tN "UNASSIGNED_STACK" Bundle.steD A U H ∧ vx_Zq Bundle.tN "SUPPRESSED_SENTINEL" Bundle.listD A U H ∧ zV U
theorem zV.warm {s U : State} (hW : s.WarmedH U.vm) (h : zV s) : zV U := by
  refine ⟨fun w hw => ?_, fun q hq => ?_, h.2.2.1.moved hW.alike, fun q hq => (h.2.2.2 q hq).moved hW.alike⟩
  · have h1 := h.1 w hw
    simp only [zNW, List.mem_cons, List.not_mem_nil, or_false] at hw
    rcases hw with rfl | rfl | rfl | rfl | rfl | rfl | rfl | rfl | rfl | rfl | rfl | rfl <;> first | exact va_Nw.warmC hW h1 | exact va_Nw.warmF hW h1 | exact va_Nw.warmD hW h1
  · obtain ⟨a, ha⟩ := h.2.1 q hq
    exact ⟨a, vk_R.warm hW ha⟩
theorem zX.warm {A B : Nat → Prop} {s U : State} {H0 H : Heap} {locs : List Loc} (hS : va_S A H0 H locs) (hW : s.WarmedH U.vm) (h : zX A s H0) (hB : ∀ q, B q → A q) : zX B U H :=
  ⟨((h.1.kept hS.2.1).moved hW.alike).narrow hB, ((h.2.1.kept hS.2.1).moved hW.alike).narrow hB, zV.warm hW h.2.2⟩
theorem zX.same {A : Nat → Prop} {U V : State} {H : Heap} (hv : V.vm = U.vm) (h : zX A U H) : zX A V H := by
  have hal : U.vm.Alike V.vm := by rw [hv]; exact Vm.Alike.refl U.vm
  refine ⟨h.1.moved hal, h.2.1.moved hal, fun w hw => ?_, fun q hq => ?_, h.2.2.2.2.1.moved hal, fun q hq => (h.2.2.2.2.2 q hq).moved hal⟩
  · have h1 := h.2.2.1 w hw
    simp only [zNW, List.mem_cons, List.not_mem_nil, or_false] at hw
    rcases hw with rfl | rfl | rfl | rfl | rfl | rfl | rfl | rfl | rfl | rfl | rfl | rfl <;> exact va_Nw.same rfl hv.symm h1
  · obtain ⟨a, ha⟩ := h.2.2.2.1 q hq
    exact ⟨a, vk_R.same hv ha⟩
-- the shapes of a contract
abbrev zMi (l : Launch) (y : MethodName) (wsy : List Cond) (rm : Room) (av : List Value) (g : zG) (w : va_W) (post : Int32 → va_W → Prop) (mc ms : Nat) : Prop := ∀ (sz : Nat) (A : Nat → Prop), A = va_A w sz → Met l y wsy rm (va_Pc av (zIn g w sz)) (va_Qi post (zOut g A) A) mc ms A
abbrev zMl (l : Launch) (y : MethodName) (wsy : List Cond) (rm : Room) (av : List Value) (g : zG) (w : va_W) (post : Int64 → va_W → Prop) (mc ms : Nat) : Prop := ∀ (sz : Nat) (A : Nat → Prop), A = va_A w sz → Met l y wsy rm (va_Pc av (zIn g w sz)) (va_Ql post (zOut g A) A) mc ms A
abbrev zMv (l : Launch) (y : MethodName) (wsy : List Cond) (rm : Room) (av : List Value) (g : zG) (w : va_W) (post : va_W → Prop) (mc ms : Nat) : Prop := ∀ (sz : Nat) (A : Nat → Prop), A = va_A w sz → Met l y wsy rm (va_Pc av (zIn g w sz)) (va_Qv post (zOut g A) A) mc ms A
abbrev zPX (av : List Value) (g : zG) (w : va_W) (sz : Nat) (A : Nat → Prop) : Array Value → State → Prop := va_Pc av (fun U => zIn g w sz U ∧ zX A U U.heap)
abbrev zQX (g : zG) (w : va_W) (XE : String → Prop) (A : Nat → Prop) : String → State → State → Prop := vx_X (fun u : va_W => u = w) (fun E u t => XE E ∧ zOut g A u t) A
abbrev zWi (l : Launch) (y : MethodName) (wsy : List Cond) (rm : Room) (av : List Value) (g : zG) (w : va_W) (post : Int32 → va_W → Prop) (mc ms : Nat) : Prop := ∀ (sz : Nat) (A : Nat → Prop), A = va_A w sz → Met l y wsy rm (zPX av g w sz A) (va_Qi post (zOut g A) A) mc ms A
abbrev zWv (l : Launch) (y : MethodName) (wsy : List Cond) (rm : Room) (av : List Value) (g : zG) (w : va_W) (post : va_W → Prop) (mc ms : Nat) : Prop := ∀ (sz : Nat) (A : Nat → Prop), A = va_A w sz → Met l y wsy rm (zPX av g w sz A) (va_Qv post (zOut g A) A) mc ms A
abbrev zXi (l : Launch) (y : MethodName) (wsy : List Cond) (rm : Room) (av : List Value) (g : zG) (w : va_W) (post : Int32 → va_W → Prop) (XE : String → Prop) (mc ms : Nat) : Prop := ∀ (sz : Nat) (A : Nat → Prop), A = va_A w sz → vx_Met l y wsy rm (zPX av g w sz A) (va_Qi post (zOut g A) A) (zQX g w XE A) mc ms A
abbrev zXv (l : Launch) (y : MethodName) (wsy : List Cond) (rm : Room) (av : List Value) (g : zG) (w : va_W) (post : va_W → Prop) (XE : String → Prop) (mc ms : Nat) : Prop := ∀ (sz : Nat) (A : Nat → Prop), A = va_A w sz → vx_Met l y wsy rm (zPX av g w sz A) (va_Qv post (zOut g A) A) (zQX g w XE A) mc ms A
abbrev zXq (l : Launch) (y : MethodName) (wsy : List Cond) (rm : Room) (av : List Value) (g : zG) (w : va_W) (post : Option Nat → va_W → Prop) (XE : String → Prop) (mc ms : Nat) : Prop := ∀ (sz : Nat) (A : Nat → Prop), A = va_A w sz → vx_Met l y wsy rm (zPX av g w sz A) (va_Qq post (zOut g A) A) (zQX g w XE A) mc ms A
theorem zIn.blind {av : List Value} {g : zG} {w : va_W} {sz : Nat} : FrameBlind (va_Pc av (zIn g w sz)) := fun a U f mk q => by
  obtain ⟨q0, q1, qP, qK, qD⟩ := q
  exact ⟨q0, q1, qP, zK.moved (u := U) (U := U.calling f mk a) (Vm.Alike.refl U.vm) qK, qD⟩
theorem zPX.blind {av : List Value} {g : zG} {w : va_W} {sz : Nat} {A : Nat → Prop} : FrameBlind (zPX av g w sz A) := fun a U f mk q => by
  obtain ⟨q0, ⟨q1, qP, qK, qD⟩, qX⟩ := q
  exact ⟨q0, ⟨q1, qP, zK.moved (u := U) (U := U.calling f mk a) (Vm.Alike.refl U.vm) qK, qD⟩, zX.same (U := U) rfl qX⟩
theorem z_in {s : State} {A : Nat → Prop} {w : va_W} {sz : Nat} (hsz : s.heap.size = sz) (hAe : A = va_A w sz) (hD0 : va_D (fun _ => True) w) : va_D A w ∧ (∀ q : Nat, s.heap.size ≤ q → A q) ∧ va_S A s.heap s.heap [] := by
  subst hsz; subst hAe
  exact ⟨hD0.self, fun q h => Or.inr h, va_S.rf⟩
-- worlds in blocks
theorem zP_iff {D : va_G} {cl : List vw_C} {ws : va_W} {H : Heap} : va_P D cl ws H ↔ ∀ q ∈ ws, va_at D cl q H :=
  ⟨fun h q hq => by obtain ⟨k, hk⟩ := List.getElem?_of_mem hq; exact h k q hk, fun h k q hk => h q (List.mem_of_getElem? hk)⟩
theorem zD_iff {A : Nat → Prop} {ws : va_W} : va_D A ws ↔ (ws.map Prod.fst).Nodup ∧ ∀ q ∈ ws, A q.1 := by
  constructor
  · intro h
    refine ⟨?_, fun q hq => by obtain ⟨k, hk⟩ := List.getElem?_of_mem hq; exact h.2 k q hk⟩
    rw [List.nodup_iff_pairwise_ne, List.pairwise_iff_getElem]
    intro i j hi hj hij he
    rw [List.getElem_map, List.getElem_map] at he
    rw [List.length_map] at hi hj
    have := h.1 i j ws[i] ws[j] (List.getElem?_eq_getElem hi) (List.getElem?_eq_getElem hj) he
    omega
  · intro h
    refine ⟨fun i j p q hp hq he => ?_, fun k q hk => h.2 q (List.mem_of_getElem? hk)⟩
    have h1 := h.1
    rw [List.nodup_iff_pairwise_ne, List.pairwise_iff_getElem] at h1
    obtain ⟨hi, ei⟩ := List.getElem?_eq_some_iff.mp hp
    obtain ⟨hj, ej⟩ := List.getElem?_eq_some_iff.mp hq
    rcases Nat.lt_trichotomy i j with q1 | q1 | q1
    · exact absurd (by rw [List.getElem_map, List.getElem_map, ei, ej]; exact he) (h1 i j (by rw [List.length_map]; exact hi) (by rw [List.length_map]; exact hj) q1)
    · exact q1
    · exact absurd (by rw [List.getElem_map, List.getElem_map, ei, ej]; exact he.symm) (h1 j i (by rw [List.length_map]; exact hj) (by rw [List.length_map]; exact hi) q1)
theorem zP_perm {D : va_G} {cl : List vw_C} {ws ws' : va_W} {H : Heap} (h : va_P D cl ws H) (p : ws'.Perm ws) : va_P D cl ws' H := zP_iff.mpr fun q hq => zP_iff.mp h q (p.subset hq)
theorem zD_perm {A : Nat → Prop} {ws ws' : va_W} (h : va_D A ws) (p : ws'.Perm ws) : va_D A ws' := zD_iff.mpr ⟨(p.map Prod.fst).nodup_iff.mpr (zD_iff.mp h).1, fun q hq => (zD_iff.mp h).2 q (p.subset hq)⟩
theorem zA_iff {ws : va_W} {sz q : Nat} : va_A ws sz q ↔ (∃ e, (q, e) ∈ ws) ∨ sz ≤ q := by
  constructor
  · rintro (⟨k, e, h⟩ | h)
    · exact Or.inl ⟨e, List.mem_of_getElem? h⟩
    · exact Or.inr h
  · rintro (⟨e, h⟩ | h)
    · obtain ⟨k, hk⟩ := List.getElem?_of_mem h
      exact Or.inl ⟨k, e, hk⟩
    · exact Or.inr h
theorem zP_mid {D : va_G} {cl : List vw_C} {wa wc wb : va_W} {H : Heap} (h : va_P D cl (wa ++ wc ++ wb) H) : va_P D cl wc H := zP_iff.mpr fun q hq => zP_iff.mp h q (by simp [hq])
theorem zD_mid {A : Nat → Prop} {wa wc wb : va_W} (h : va_D A (wa ++ wc ++ wb)) : va_D A wc := by
  have h' := zD_iff.mp h
  refine zD_iff.mpr ⟨?_, fun q hq => h'.2 q (by simp [hq])⟩
  have h1 := h'.1
  rw [List.map_append, List.map_append] at h1
  exact (List.nodup_append.mp (List.nodup_append.mp h1).1).2.1
theorem zfree {A : Nat → Prop} {wa wc wb : va_W} {H0 H : Heap} {locs : List Loc} (hD : va_D A (wa ++ wc ++ wb)) (hS : va_S A H0 H locs) (hA : ∀ q, H0.size ≤ q → A q) : ∀ q, va_A wc H.size q → A q := by
  intro q hq
  rcases zA_iff.mp hq with ⟨e, he⟩ | h
  · exact (zD_iff.mp hD).2 (q, e) (by simp [he])
  · exact hA q (Nat.le_trans hS.1 h)
theorem zjoin {A : Nat → Prop} {D : va_G} {cl : List vw_C} {wa wc wb w1 : va_W} {H H1 : Heap} (hP : va_P D cl (wa ++ wc ++ wb) H) (hD : va_D A (wa ++ wc ++ wb))
    (hk : ∀ q : Nat, q < H.size → ¬ va_A wc H.size q → H1[q]? = H[q]?) (hF : ∀ q, va_A wc H.size q → A q) (hP1 : va_P D cl w1 H1) (hD1 : va_D (va_A wc H.size) w1) : va_P D cl (wa ++ w1 ++ wb) H1 ∧ va_D A (wa ++ w1 ++ wb) := by
  have hP' := zP_iff.mp hP
  obtain ⟨hn, hA'⟩ := zD_iff.mp hD
  obtain ⟨hn1, hA1⟩ := zD_iff.mp hD1
  have hP1' := zP_iff.mp hP1
  simp only [List.map_append, List.nodup_append, List.mem_append, List.mem_map] at hn
  obtain ⟨⟨na, nc, nac⟩, nb, nab⟩ := hn
  have out : ∀ q ∈ wa ++ wb, q.1 < H.size ∧ ¬ va_A wc H.size q.1 := by
    intro q hq
    have hlt : q.1 < H.size := (hP' q (by rcases List.mem_append.mp hq with h | h <;> simp [h])).lt
    refine ⟨hlt, fun h => ?_⟩
    rcases zA_iff.mp h with ⟨e, he⟩ | h
    · rcases List.mem_append.mp hq with h2 | h2
      · exact nac q.1 ⟨q, h2, rfl⟩ q.1 ⟨_, he, rfl⟩ rfl
      · exact nab q.1 (Or.inr ⟨_, he, rfl⟩) q.1 ⟨q, h2, rfl⟩ rfl
    · omega
  refine ⟨zP_iff.mpr fun q hq => ?_, zD_iff.mpr ⟨?_, fun q hq => ?_⟩⟩
  · rcases List.mem_append.mp hq with h | h
    · rcases List.mem_append.mp h with h | h
      · obtain ⟨g1, g2⟩ := out q (List.mem_append_left _ h)
        exact (hP' q (by simp [h])).kept (hk q.1 g1 g2)
      · exact hP1' q h
    · obtain ⟨g1, g2⟩ := out q (List.mem_append_right _ h)
      exact (hP' q (by simp [h])).kept (hk q.1 g1 g2)
  · simp only [List.map_append, List.nodup_append, List.mem_append, List.mem_map]
    refine ⟨⟨na, hn1, ?_⟩, nb, ?_⟩
    · rintro x ⟨q, hq, rfl⟩ y ⟨q1, hq1, rfl⟩ he
      exact (out q (List.mem_append_left _ hq)).2 (by rw [he]; exact hA1 q1 hq1)
    · rintro x (⟨q, hq, rfl⟩ | ⟨q, hq, rfl⟩) y ⟨q1, hq1, rfl⟩ he
      · exact nab q.1 (Or.inl ⟨q, hq, rfl⟩) q1.1 ⟨q1, hq1, rfl⟩ he
      · exact (out q1 (List.mem_append_right _ hq1)).2 (by rw [← he]; exact hA1 q hq)
  · rcases List.mem_append.mp hq with h | h
    · rcases List.mem_append.mp h with h | h
      · exact hA' q (by simp [h])
      · exact hF q.1 (hA1 q h)
    · exact hA' q (by simp [h])
