/-! p20: the law from its entry -/
theorem z_arr {s : State} {args : Array Value} {ty : FieldType} (hty : ∀ C, ty ≠ .object C) (h : (Cond.arrayClass ty).before args s = true) : ∃ cA : ClassId, ArrOfT s cA ty ∧ va_RA s cA ty := by
  obtain ⟨cA, k, comp, h1, h2, h3⟩ := Cond.arrayClass_spec (args := args) (first := s) (o := none) (s := s) (idx := []) h
  refine ⟨cA, fun n z => ⟨(fun q hq => by cases hq), k, h2, comp, h3⟩, ?_⟩
  cases ty <;> first | exact absurd rfl (hty _) | exact h1
theorem z_arrQ {s : State} {args : Array Value} {C : String} (h : (Cond.arrayOver (.object C)).before args s = true) : ∃ cA : ClassId, ArrOfT s cA (.object C) ∧ va_RA s cA (.object C) := by
  obtain ⟨comp, cA, k, h1, -, h2, h3, h4⟩ := Cond.arrayOver_spec (args := args) (first := s) (o := none) (s := s) (idx := []) h
  exact ⟨cA, fun n z => ⟨(fun q hq => by cases hq), k, h2, comp, h3⟩, k, comp, h2, h3, h1, h4⟩
theorem z_str {s : State} {args : Array Value} {k : Nat} {tx : String} (h1 : (Cond.stringRef "Usewise" k tx).before args s = true) (h2 : (Cond.exactly (.string "Usewise" k) "java/lang/String").before args s = true) : ∃ a : Nat, vk_R "Usewise" k tx a s := by
  obtain ⟨a, ca, cell, ka, ha, -⟩ := Cond.exactly_spec (args := args) (first := s) (o := none) (s := s) (idx := []) h2
  exact ⟨a, vk_R.of h1 ha⟩
theorem zNW_in : ∀ w ∈ zNW, w ∈ lw_tbl := by decide +kernel
theorem zSR_in : ∀ q ∈ zSR, Cond.stringRef "Usewise" q.1 q.2 ∈ lw_tbl := by decide +kernel
theorem zSR_in2 : ∀ q ∈ zSR, Cond.exactly (.string "Usewise" q.1) "java/lang/String" ∈ flatC (Jvm.Cond.and given_1 narrow_1) := by decide +kernel
theorem z_start {s : State} {args : Array Value} (hts : ∀ w ∈ lw_tbl, w.before args s = true) (hgv : (Jvm.Cond.and given_1 narrow_1).before args s = true) : ∃ g : zG, zK g s ∧ zX (fun q : Nat => s.heap.size ≤ q) s s.heap := by
  have hg := flat_of_before _ hgv
  obtain ⟨c0, j0, hk0⟩ := u_known (C := RX0) (T := TX0) (N := 11) (n := 11) hts inX0 (hts (.instantiable RX0 11) (by decide +kernel))
  obtain ⟨c1, j1, hk1⟩ := u_known (C := RX1) (T := TX1) (N := 2) (n := 2) hts inX1 (hts (.instantiable RX1 2) (by decide +kernel))
  have hao : (Cond.arrayOver (.object "Usewise$Lease")).before args s = true := hts _ (by decide +kernel)
  obtain ⟨cI, a1, a2⟩ := z_arr (ty := .int) (fun C h => by cases h) (hts (.arrayClass .int) (by decide +kernel))
  obtain ⟨cL, a5, a6⟩ := z_arrQ hao
  refine ⟨((fun k => if k = 0 then c0 else c1, fun k => if k = 0 then j0 else j1), cI, cL, cI), ⟨?_, ?_⟩, ?_, ?_, ?_, ?_, ?_, ?_⟩
  · intro k q hq
    match k, hq with
    | 0, hq => cases hq; exact hk0
    | 1, hq => cases hq; exact hk1
    | k + 2, hq => simp [vwCl] at hq
  · intro k q hq
    match k, hq with
    | 0, hq => cases hq; exact ⟨a1, a2⟩
    | 1, hq => cases hq; exact ⟨a5, a6⟩
    | 2, hq => cases hq; exact ⟨a1, a2⟩
    | k + 3, hq => simp [zT] at hq
  · exact vx_Zqof (args := args) (hts (.laysStatic Bundle.tN "UNASSIGNED_STACK" Bundle.steD) (by decide +kernel)) (hts (.initialized Bundle.tN) (by decide +kernel)) (hg (.isRef (.static Bundle.tN "UNASSIGNED_STACK" Bundle.steD)) (by decide +kernel)) (fun a h => Nat.not_le.mpr h)
  · exact vx_Zqof (args := args) (hts (.laysStatic Bundle.tN "SUPPRESSED_SENTINEL" Bundle.listD) (by decide +kernel)) (hts (.initialized Bundle.tN) (by decide +kernel)) (hg (.isRef (.static Bundle.tN "SUPPRESSED_SENTINEL" Bundle.listD)) (by decide +kernel)) (fun a h => Nat.not_le.mpr h)
  · exact fun w hw => va_Nw.of (zNW_t w hw) (hts w (zNW_in w hw))
  · exact fun q hq => z_str (hts _ (zSR_in q hq)) (hg _ (zSR_in2 q hq))
  · exact va_AO.of hao
  · exact fun q hq => absurd hq List.not_mem_nil

set_option maxHeartbeats 4000000 in
set_option maxRecDepth 100000 in
/-- YOUR PART: from the entry, for every script of at most 260 ints, the law comes to its end with true -/
theorem whole_start {p : Program} {e : Env} {s : State} {m : MethodId} {below : List Frame} {meth : Method} {c : Code} (l : Launch) (hflags : l.flags = flags0) {b L : Nat} {xs : Nat → Int32} (hL : L ≤ 260) (C0 : lw_At p s m meth c b L xs) : W p l e room_1 s m #[Value.ref b] below meth c s.heap [] 0 0 (lw_Z below #[Value.ref b] s) (entryFrame m ([Value.ref b] : List Value).toArray 14) := by
  have hst : l.stackTraces = false := by unfold Launch.stackTraces; rw [hflags]; decide
  obtain ⟨hx, hb, hr, hml, hown, hts0, hXs, hbl, hlocks, hgv⟩ := id C0
  have hown : s.vm.findClass RL = some m.cls := hown
  have hts : ∀ w ∈ wsL_law, w.before #[Value.ref b] s = true := fun w h => hts0 w (wsL_law_in w h)
  have hA : ∀ q : Nat, s.heap.size ≤ q → (fun q : Nat => s.heap.size ≤ q) q := fun _ h => h
  obtain ⟨g, hK, hX⟩ := z_start hts0 hgv
  have hS : va_S (fun q : Nat => s.heap.size ≤ q) s.heap s.heap [] := va_S.rf
  have hP : va_P g.1 vwCl [] s.heap := fun k q h => by simp at h
  have hD : va_D (fun q : Nat => s.heap.size ≤ q) [] := ⟨fun i j p q h => by simp at h, fun k q h => by simp at h⟩
  have hl := lv_entry ([.ref b]) (n := 14) (Nat.le_of_ble_eq_true rfl)
  rw [lg_entry_eq]
  generalize (lg_sl ([.ref b]) ++ List.replicate (14 - (lg_sl ([.ref b])).length) Slot.unset).toArray = ls at hl ⊢
  have hl : lv_has ls 14 [(0, .ref b)] := hl
  refine va_new (ci := 1) (fs := [.null, .int (nI 0)]) (C := RX1) (T := TX1) (N := 2) hx hb hts inlX1 tyX1 tyX1_ok hown (hts (.classLink RL 11 RX1) (by decide +kernel)) (hts (.instantiable RX1 2) (by decide +kernel)) (hts (.initialized RX1) (by decide +kernel)) hK hP hD hS hA rfl (fun j hj => by rcases (show j = 0 ∨ j = 1 by omega) with rfl | rfl <;> rfl) (Nat.le_of_ble_eq_true rfl) (Nat.le_of_ble_eq_true rfl) dL_law_0 (fun ua H hP hD hS => ?_)
  have hP : va_P g.1 vwCl ([] ++ [(ua, .inr (1, [.null, .int (nI 0)]))] ++ []) H := hP
  have hD : va_D (fun q : Nat => s.heap.size ≤ q) ([] ++ [(ua, .inr (1, [.null, .int (nI 0)]))] ++ []) := hD
  refine lv_dup hx hb dL_law_3 rfl ?_
  refine z_av (wa := []) (wc := [(ua, .inr (1, [.null, .int (nI 0)]))]) (wb := []) (va_runI (As := []) (rest := [.ref ua]) ⟨hx, hb, hml, hown, hts⟩ (c_UseInit l g ua H.size _ rfl) (cwI 0 hts gL_law_X1_init rfl rfl rfl (hts (.initialized RX1) (by decide +kernel)) (hts (.methodLink RL 37 yX1_init) (by decide +kernel)) (hts (.instanceMethod yX1_init) (by decide +kernel)) rfl (by decide +kernel) ⟨Nat.le_of_ble_eq_true rfl, Nat.le_of_ble_eq_true rfl⟩) (zpreXS (wa := []) (wc := [(ua, .inr (1, [.null, .int (nI 0)]))]) (wb := []) hK hP hD hS hA hX) rfl rfl hl.1 rfl (lv_room (Nat.le_of_ble_eq_true rfl)) dL_law_4 ⟨Nat.le_of_ble_eq_true rfl, Nat.le_of_ble_eq_true rfl⟩) hP hD hS hA (fun w1 H locs hq hP hD hS => ?_)
  obtain ⟨ar, rfl⟩ := hq
  have hP : va_P g.1 vwCl ([(ua, .inr (1, [.ref ar, .int (nI 0)])), (ar, .inl (g.2.2.1, 6, .inr (.inr (.inr (.inr (fun _ => none))))))]) H := hP
  have hD : va_D (fun q : Nat => s.heap.size ≤ q) ([(ua, .inr (1, [.ref ar, .int (nI 0)])), (ar, .inl (g.2.2.1, 6, .inr (.inr (.inr (.inr (fun _ => none))))))]) := hD
  refine lv_astore_n (lv' := [(1, .ref ua), (0, .ref b)]) hx hb dL_law_7 rfl hl (by decide) rfl (fun ls hl => ?_)
  refine lv_bipush (v := nI 6) hx hb dL_law_8 (by decide) ?_
  refine z_newI hx hb (hts (.arrayClass .int) (by decide +kernel)) hK hP hD hS hA (by omega) (Nat.le_of_ble_eq_true rfl) (Nat.le_of_ble_eq_true rfl) dL_law_10 (fun co H hP hD hS => ?_)
  refine lv_astore_n (lv' := [(2, .ref co), (1, .ref ua), (0, .ref b)]) hx hb dL_law_12 rfl hl (by decide) rfl (fun ls hl => ?_)
  refine lv_bipush (v := nI 6) hx hb dL_law_13 (by decide) ?_
  refine z_newI hx hb (hts (.arrayClass .int) (by decide +kernel)) hK hP hD hS hA (by omega) (Nat.le_of_ble_eq_true rfl) (Nat.le_of_ble_eq_true rfl) dL_law_15 (fun mo H hP hD hS => ?_)
  refine lv_astore_n (lv' := [(3, .ref mo), (2, .ref co), (1, .ref ua), (0, .ref b)]) hx hb dL_law_17 rfl hl (by decide) rfl (fun ls hl => ?_)
  refine lv_iconst (v := nI 0) hx hb dL_law_18 (by decide) ?_
  refine lv_istore (lv' := [(4, .int (nI 0)), (3, .ref mo), (2, .ref co), (1, .ref ua), (0, .ref b)]) hx hb dL_law_19 hl (by decide) rfl (fun ls hl => ?_)
  refine lv_iconst (v := nI 0) hx hb dL_law_21 (by decide) ?_
  refine lv_istore (lv' := [(5, .int (nI 0)), (4, .int (nI 0)), (3, .ref mo), (2, .ref co), (1, .ref ua), (0, .ref b)]) hx hb dL_law_22 hl (by decide) rfl (fun ls hl => ?_)
  refine lv_iconst (v := nI 0) hx hb dL_law_24 (by decide) ?_
  refine lv_istore (lv' := [(6, .int (nI 0)), (5, .int (nI 0)), (4, .int (nI 0)), (3, .ref mo), (2, .ref co), (1, .ref ua), (0, .ref b)]) hx hb dL_law_25 hl (by decide) rfl (fun ls hl => ?_)
  have hI : zTw 0 (fun _ => none) (fun _ => 0) (fun _ => 0) (fun _ => (0, 0, 0)) (fun _ => 0) (fun _ => 0) (fun _ => (0, 0, fun _ => 0, 0, 0, 0, 0, 0)) (fun _ => (0, 0, 0, 0, fun _ => 0, fun _ => 0)) 0 := ⟨by decide, by decide, fun k hk => absurd hk (Nat.not_lt_zero k), fun _ _ _ => rfl, fun k hk => absurd hk (Nat.not_lt_zero k), fun k hk => absurd hk (Nat.not_lt_zero k), fun k hk => absurd hk (Nat.not_lt_zero k), fun k hk => absurd hk (Nat.not_lt_zero k)⟩
  have hP : va_P g.1 vwCl (zPw g ua ar co mo 0 (fun _ => none) (fun _ => 0) (fun _ => 0) (fun _ => (0, 0, 0)) (fun _ => 0) (fun _ => 0) (fun _ => (0, 0, fun _ => 0, 0, 0, 0, 0, 0)) (fun _ => (0, 0, 0, 0, fun _ => 0, fun _ => 0))) H := hP
  have hD : va_D (fun q : Nat => s.heap.size ≤ q) (zPw g ua ar co mo 0 (fun _ => none) (fun _ => 0) (fun _ => 0) (fun _ => (0, 0, 0)) (fun _ => 0) (fun _ => 0) (fun _ => (0, 0, fun _ => 0, 0, 0, 0, 0, 0)) (fun _ => (0, 0, 0, 0, fun _ => 0, fun _ => 0))) := hD
  have rc : room_1.cells = 600064 := rfl
  have rs : room_1.slots = 7301640 := rfl
  refine W.widen (k := 20 + 300 * 0) (n := 200 + 3000 * 0) (by omega) (by omega) ?_
  exact law_loop (g := g) (ua := ua) (ar := ar) (co := co) (mo := mo) hst hL C0 hK hX 41 0 0 0 (fun _ => none) (fun _ => 0) (fun _ => 0) (fun _ => (0, 0, 0)) (fun _ => 0) (fun _ => 0) (fun _ => (0, 0, fun _ => 0, 0, 0, 0, 0, 0)) (fun _ => (0, 0, 0, 0, fun _ => 0, fun _ => 0)) H _ ls (by omega) (by omega) hI hP hD hS (lv_sub hl [6, 5, 4, 3, 2, 1, 0] rfl)
