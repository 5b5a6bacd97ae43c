/-! the law: its roads into the class -/
section ZL
variable {p : Program} {l : Launch} {e : Env} {R : Room} {s : State} {m : MethodId} {args : Array Value} {below : List Frame} {meth : Method} {c : Code} {H : Heap} {locs : List Loc} {cells slots : Nat} {Q : State → Prop}
variable {cc : ByteArray} {pc : Nat} {ls : Array Slot} {rest : List Value} {g : zG} {A : Nat → Prop} {a : Nat} {ws : va_W} {H0 : Heap}
theorem z_last (hx : p.tables.exec = Jvm.exec) (hb : c.code = cc) (hK : zK g s) (hP : va_P g.1 vwCl ws H) (hD : va_D A ws) (hS : va_S A H0 H locs) (q0 : Nat) {f : Nat → Int64} {x : Int64} (ha : ws[q0]? = some (a, .inl (g.2.2.2, 1, .inr (.inl f)))) (d : decode cc pc = .ok (.lastore, 1)) (k : ∀ (H1 : Heap) (locs1 : List Loc), va_P g.1 vwCl (ws.set q0 (a, .inl (g.2.2.2, 1, .inr (.inl (vp_updL f 0 x))))) H1 → va_D A (ws.set q0 (a, .inl (g.2.2.2, 1, .inr (.inl (vp_updL f 0 x))))) → va_S A H0 H1 locs1 → W p l e R s m args below meth c H1 locs1 cells slots Q (F0 m (pc + 1) ls rest)) : W p l e R s m args below meth c H locs cells slots Q (F0 m pc ls (.long x :: .int (nI 0) :: .ref a :: rest)) := by
  refine va_last hx hb hK hP hD hS q0 2 ha rfl (vp_in_nI (by decide) (by decide)) d ?_
  rw [nI_clamp (by decide)]
  exact k
end ZL
set_option maxHeartbeats 4000000 in
set_option maxRecDepth 100000 in
theorem w_add (l : Launch) (g : zG) (ua ar oa : Nat) (c0 : Int32) (W1 : va_W) (x1 x2 x3 x4 x5 x6 x7 : Int32) (f : Nat → Int64) (post : Int32 → va_W → Prop) (XE : String → Prop) (hM : zXi l yX1_add wsX1_add ({ frames := 7, cells := 11, slots := 301, locals := 125 } : Room) [.ref ua, .int x1, .int x2, .int x3, .int x4, .int x5, .int x6, .int x7] g ((ua, .inr (1, [.ref ar, .int c0])) :: W1) post XE 11 301) (hXE : ∀ E, XE E → E = "java/lang/IllegalArgumentException" ∨ E = "java/lang/IllegalStateException") : zWi l yL_add wsL_add ({ frames := 8, cells := 11, slots := 301, locals := 180 } : Room) [.ref ua, .int x1, .int x2, .int x3, .int x4, .int x5, .int x6, .int x7, .ref oa] g ([(oa, .inl (g.2.2.2, 1, .inr (.inl f)))] ++ (((ua, .inr (1, [.ref ar, .int c0])) :: W1))) (fun q w => (q = nI 0 ∧ ∃ (r : Int32) (w1 : va_W), post r w1 ∧ w = [(oa, .inl (g.2.2.2, 1, .inr (.inl (vp_updL f 0 r.toInt64))))] ++ w1) ∨ (w = [(oa, .inl (g.2.2.2, 1, .inr (.inl f)))] ++ ((ua, .inr (1, [.ref ar, .int c0])) :: W1) ∧ ((XE "java/lang/IllegalArgumentException" ∧ q = nI 1) ∨ (XE "java/lang/IllegalStateException" ∧ q = nI 2)))) 11 301 := by
  intro sz A hAe
  refine va_MetW (cc := cL_add) (maxL := 10) (ret := some .int) (by decide) rfl ?_
  intro p e s m args below meth c s₁ B hml hv
  obtain ⟨rfl, ⟨hsz, hP, hK, hD0⟩, hX⟩ := hv
  have hx := B.exec
  have hb := B.bytes
  have hr := B.returns
  have hts := atoms_spec (ws := wsL_add) B.pre
  have hown : s.vm.findClass RL = some m.cls := findClass_of_methodNamed B.named
  have hlocks := B.notSynchronized
  obtain ⟨hD, hA, hS⟩ := z_in hsz hAe hD0
  have hl := lv_entry ([.ref ua, .int x1, .int x2, .int x3, .int x4, .int x5, .int x6, .int x7, .ref oa]) (n := 10) (Nat.le_of_ble_eq_true rfl)
  rw [lg_entry_eq]
  generalize (lg_sl ([.ref ua, .int x1, .int x2, .int x3, .int x4, .int x5, .int x6, .int x7, .ref oa]) ++ List.replicate (10 - (lg_sl ([.ref ua, .int x1, .int x2, .int x3, .int x4, .int x5, .int x6, .int x7, .ref oa])).length) Slot.unset).toArray = ls at hl ⊢
  have hl : lv_has ls 10 [(0, .ref ua), (1, .int x1), (2, .int x2), (3, .int x3), (4, .int x4), (5, .int x5), (6, .int x6), (7, .int x7), (8, .ref oa)] := hl
  have htab : c.exceptionTable.toList = tableOf [(0, 20, 23, 13), (0, 20, 27, 15)] := vx_table (x := yL_add) B (hts (.codeWith yL_add cL_add 10 (some .int) [(0, 20, 23, 13), (0, 20, 27, 15)]) (by decide +kernel))
  refine lv_aload hx hb dL_add_0 (lv_at hl 8 rfl) ?_
  refine lv_iconst (v := nI 0) hx hb dL_add_2 (by decide) ?_
  refine lv_aload_n hx hb dL_add_3 rfl (lv_at hl 0 rfl) ?_
  refine lv_iload_n hx hb dL_add_4 rfl (lv_at hl 1 rfl) ?_
  refine lv_iload_n hx hb dL_add_5 rfl (lv_at hl 2 rfl) ?_
  refine lv_iload_n hx hb dL_add_6 rfl (lv_at hl 3 rfl) ?_
  refine lv_iload hx hb dL_add_7 (lv_at hl 4 rfl) ?_
  refine lv_iload hx hb dL_add_9 (lv_at hl 5 rfl) ?_
  refine lv_iload hx hb dL_add_11 (lv_at hl 6 rfl) ?_
  refine lv_iload hx hb dL_add_13 (lv_at hl 7 rfl) ?_
  have hP : va_P g.1 vwCl ([(oa, .inl (g.2.2.2, 1, .inr (.inl f)))] ++ ((ua, .inr (1, [.ref ar, .int c0])) :: W1) ++ []) s.heap := by rw [List.append_nil]; exact hP
  have hD : va_D A ([(oa, .inl (g.2.2.2, 1, .inr (.inl f)))] ++ ((ua, .inr (1, [.ref ar, .int c0])) :: W1) ++ []) := by rw [List.append_nil]; exact hD
  refine z_axi (wa := [(oa, .inl (g.2.2.2, 1, .inr (.inl f)))]) (wc := ((ua, .inr (1, [.ref ar, .int c0])) :: W1)) (wb := []) (vx_runV (As := [.int x1, .int x2, .int x3, .int x4, .int x5, .int x6, .int x7]) (rest := [.int (nI 0), .ref oa]) ⟨hx, hb, hml, hown, hts⟩ (hM s.heap.size _ rfl) (cwV 7 hts gL_add_X1_add rfl rfl rfl (by decide +kernel) ⟨Nat.le_of_ble_eq_true rfl, Nat.le_of_ble_eq_true rfl⟩) (zpreXV (wa := [(oa, .inl (g.2.2.2, 1, .inr (.inl f)))]) (wc := ((ua, .inr (1, [.ref ar, .int c0])) :: W1)) (wb := []) (q0 := 0) (ci := 1) (T := TX1) (N := 2) hK hP hD hS hA hX rfl rfl) rfl rfl hl.1 rfl (lv_room (Nat.le_of_ble_eq_true rfl)) dL_add_15 ⟨Nat.le_of_ble_eq_true rfl, Nat.le_of_ble_eq_true rfl⟩) hP hD hS hA (fun E ce q9 H locs hE hP hD hS hc1 hc2 hc3 => ?_) (fun r w1 H locs hq hP hD hS => ?_)
  · rw [List.append_nil] at hP hD
    rcases hXE E hE with rfl | rfl
    · refine vx_catch (own := RL) (E := "java/lang/IllegalArgumentException") (name := "java/lang/IllegalArgumentException") hown ([] : List ExceptionTableEntry) ⟨0, 20, 23, 13⟩ [⟨0, 20, 27, 15⟩] htab (fun z hz => absurd hz List.not_mem_nil) rfl (by decide) (hts (.classLink RL 13 "java/lang/IllegalArgumentException") (by decide +kernel)) (va_Nw.use rfl (hX.2.2.1 (.castable "java/lang/IllegalArgumentException" "java/lang/IllegalArgumentException") (by decide +kernel))) hc1 hc2 hc3 ?_
      refine lv_astore (lv' := [(9, .ref q9), (0, .ref ua), (1, .int x1), (2, .int x2), (3, .int x3), (4, .int x4), (5, .int x5), (6, .int x6), (7, .int x7), (8, .ref oa)]) hx hb dL_add_23 hl (by decide) rfl (fun ls hl => ?_)
      refine lv_iconst (v := nI 1) hx hb dL_add_25 (by decide) ?_
      exact z_iret hx hb hr hP hK hD hS dL_add_26 hlocks (Or.inr ⟨rfl, Or.inl ⟨hE, rfl⟩⟩)
    · have hpass : ∀ z ∈ ([⟨0, 20, 23, 13⟩] : List ExceptionTableEntry), covers z 15 = false ∨ (z.catchType ≠ 0 ∧ ∃ nm : String, (Cond.classLink RL z.catchType nm).before ([.ref ua, .int x1, .int x2, .int x3, .int x4, .int x5, .int x6, .int x7, .ref oa] : List Value).toArray s = true ∧ va_Nc "java/lang/IllegalStateException" nm s) := by
        intro z hz
        simp only [List.mem_cons, List.not_mem_nil, or_false] at hz
        subst hz
        · exact Or.inr ⟨by decide, "java/lang/IllegalArgumentException", hts (.classLink RL 13 "java/lang/IllegalArgumentException") (by decide +kernel), hX.2.2.2.2.2 ("java/lang/IllegalStateException", "java/lang/IllegalArgumentException") (by decide +kernel)⟩
      refine vx_catch (own := RL) (E := "java/lang/IllegalStateException") (name := "java/lang/IllegalStateException") hown ([⟨0, 20, 23, 13⟩] : List ExceptionTableEntry) ⟨0, 20, 27, 15⟩ [] htab hpass rfl (by decide) (hts (.classLink RL 15 "java/lang/IllegalStateException") (by decide +kernel)) (va_Nw.use rfl (hX.2.2.1 (.castable "java/lang/IllegalStateException" "java/lang/IllegalStateException") (by decide +kernel))) hc1 hc2 hc3 ?_
      refine lv_astore (lv' := [(9, .ref q9), (0, .ref ua), (1, .int x1), (2, .int x2), (3, .int x3), (4, .int x4), (5, .int x5), (6, .int x6), (7, .int x7), (8, .ref oa)]) hx hb dL_add_27 hl (by decide) rfl (fun ls hl => ?_)
      refine lv_iconst (v := nI 2) hx hb dL_add_29 (by decide) ?_
      exact z_iret hx hb hr hP hK hD hS dL_add_30 hlocks (Or.inr ⟨rfl, Or.inr (⟨hE, rfl⟩)⟩)
  · rw [List.append_nil] at hP hD
    have hq0 := hq
    refine lv_i2l hx hb dL_add_18 rfl ?_
    refine z_last hx hb hK hP hD hS 0 rfl dL_add_19 (fun H locs hP hD hS => ?_)
    have hP : va_P g.1 vwCl ([(oa, .inl (g.2.2.2, 1, .inr (.inl (vp_updL f 0 r.toInt64))))] ++ w1) H := hP
    have hD : va_D A ([(oa, .inl (g.2.2.2, 1, .inr (.inl (vp_updL f 0 r.toInt64))))] ++ w1) := hD
    refine lv_goto (tgt := 31) hx hb dL_add_20 (by decide) ?_
    refine lv_iconst (v := nI 0) hx hb dL_add_31 (by decide) ?_
    exact z_iret hx hb hr hP hK hD hS dL_add_32 hlocks (Or.inl ⟨rfl, r, w1, hq, rfl⟩)

set_option maxHeartbeats 4000000 in
set_option maxRecDepth 100000 in
theorem w_pass (l : Launch) (g : zG) (ua ar oa : Nat) (c0 : Int32) (W1 : va_W) (x1 : Int32) (f : Nat → Int64) (post : Int32 → va_W → Prop) (XE : String → Prop) (hM : zXi l yX1_pass wsX1_pass ({ frames := 7, cells := 1, slots := 6, locals := 125 } : Room) [.ref ua, .int x1] g ((ua, .inr (1, [.ref ar, .int c0])) :: W1) post XE 1 6) (hXE : ∀ E, XE E → E = "java/lang/IllegalArgumentException") : zWi l yL_pass wsL_pass ({ frames := 8, cells := 1, slots := 6, locals := 180 } : Room) [.ref ua, .int x1, .ref oa] g ([(oa, .inl (g.2.2.2, 1, .inr (.inl f)))] ++ (((ua, .inr (1, [.ref ar, .int c0])) :: W1))) (fun q w => (q = nI 0 ∧ ∃ (r : Int32) (w1 : va_W), post r w1 ∧ w = [(oa, .inl (g.2.2.2, 1, .inr (.inl (vp_updL f 0 r.toInt64))))] ++ w1) ∨ (w = [(oa, .inl (g.2.2.2, 1, .inr (.inl f)))] ++ ((ua, .inr (1, [.ref ar, .int c0])) :: W1) ∧ ((XE "java/lang/IllegalArgumentException" ∧ q = nI 1)))) 1 6 := by
  intro sz A hAe
  refine va_MetW (cc := cL_pass) (maxL := 4) (ret := some .int) (by decide) rfl ?_
  intro p e s m args below meth c s₁ B hml hv
  obtain ⟨rfl, ⟨hsz, hP, hK, hD0⟩, hX⟩ := hv
  have hx := B.exec
  have hb := B.bytes
  have hr := B.returns
  have hts := atoms_spec (ws := wsL_pass) B.pre
  have hown : s.vm.findClass RL = some m.cls := findClass_of_methodNamed B.named
  have hlocks := B.notSynchronized
  obtain ⟨hD, hA, hS⟩ := z_in hsz hAe hD0
  have hl := lv_entry ([.ref ua, .int x1, .ref oa]) (n := 4) (Nat.le_of_ble_eq_true rfl)
  rw [lg_entry_eq]
  generalize (lg_sl ([.ref ua, .int x1, .ref oa]) ++ List.replicate (4 - (lg_sl ([.ref ua, .int x1, .ref oa])).length) Slot.unset).toArray = ls at hl ⊢
  have hl : lv_has ls 4 [(0, .ref ua), (1, .int x1), (2, .ref oa)] := hl
  have htab : c.exceptionTable.toList = tableOf [(0, 9, 12, 13)] := vx_table (x := yL_pass) B (hts (.codeWith yL_pass cL_pass 4 (some .int) [(0, 9, 12, 13)]) (by decide +kernel))
  refine lv_aload_n hx hb dL_pass_0 rfl (lv_at hl 2 rfl) ?_
  refine lv_iconst (v := nI 0) hx hb dL_pass_1 (by decide) ?_
  refine lv_aload_n hx hb dL_pass_2 rfl (lv_at hl 0 rfl) ?_
  refine lv_iload_n hx hb dL_pass_3 rfl (lv_at hl 1 rfl) ?_
  have hP : va_P g.1 vwCl ([(oa, .inl (g.2.2.2, 1, .inr (.inl f)))] ++ ((ua, .inr (1, [.ref ar, .int c0])) :: W1) ++ []) s.heap := by rw [List.append_nil]; exact hP
  have hD : va_D A ([(oa, .inl (g.2.2.2, 1, .inr (.inl f)))] ++ ((ua, .inr (1, [.ref ar, .int c0])) :: W1) ++ []) := by rw [List.append_nil]; exact hD
  refine z_axi (wa := [(oa, .inl (g.2.2.2, 1, .inr (.inl f)))]) (wc := ((ua, .inr (1, [.ref ar, .int c0])) :: W1)) (wb := []) (vx_runV (As := [.int x1]) (rest := [.int (nI 0), .ref oa]) ⟨hx, hb, hml, hown, hts⟩ (hM s.heap.size _ rfl) (cwV 1 hts gL_pass_X1_pass rfl rfl rfl (by decide +kernel) ⟨Nat.le_of_ble_eq_true rfl, Nat.le_of_ble_eq_true rfl⟩) (zpreXV (wa := [(oa, .inl (g.2.2.2, 1, .inr (.inl f)))]) (wc := ((ua, .inr (1, [.ref ar, .int c0])) :: W1)) (wb := []) (q0 := 0) (ci := 1) (T := TX1) (N := 2) hK hP hD hS hA hX rfl rfl) rfl rfl hl.1 rfl (lv_room (Nat.le_of_ble_eq_true rfl)) dL_pass_4 ⟨Nat.le_of_ble_eq_true rfl, Nat.le_of_ble_eq_true rfl⟩) hP hD hS hA (fun E ce q9 H locs hE hP hD hS hc1 hc2 hc3 => ?_) (fun r w1 H locs hq hP hD hS => ?_)
  · rw [List.append_nil] at hP hD
    rcases hXE E hE with rfl
    · refine vx_catch (own := RL) (E := "java/lang/IllegalArgumentException") (name := "java/lang/IllegalArgumentException") hown ([] : List ExceptionTableEntry) ⟨0, 9, 12, 13⟩ [] htab (fun z hz => absurd hz List.not_mem_nil) rfl (by decide) (hts (.classLink RL 13 "java/lang/IllegalArgumentException") (by decide +kernel)) (va_Nw.use rfl (hX.2.2.1 (.castable "java/lang/IllegalArgumentException" "java/lang/IllegalArgumentException") (by decide +kernel))) hc1 hc2 hc3 ?_
      refine lv_astore_n (lv' := [(3, .ref q9), (0, .ref ua), (1, .int x1), (2, .ref oa)]) hx hb dL_pass_12 rfl hl (by decide) rfl (fun ls hl => ?_)
      refine lv_iconst (v := nI 1) hx hb dL_pass_13 (by decide) ?_
      exact z_iret hx hb hr hP hK hD hS dL_pass_14 hlocks (Or.inr ⟨rfl, ⟨hE, rfl⟩⟩)
  · rw [List.append_nil] at hP hD
    have hq0 := hq
    refine lv_i2l hx hb dL_pass_7 rfl ?_
    refine z_last hx hb hK hP hD hS 0 rfl dL_pass_8 (fun H locs hP hD hS => ?_)
    have hP : va_P g.1 vwCl ([(oa, .inl (g.2.2.2, 1, .inr (.inl (vp_updL f 0 r.toInt64))))] ++ w1) H := hP
    have hD : va_D A ([(oa, .inl (g.2.2.2, 1, .inr (.inl (vp_updL f 0 r.toInt64))))] ++ w1) := hD
    refine lv_goto (tgt := 15) hx hb dL_pass_9 (by decide) ?_
    refine lv_iconst (v := nI 0) hx hb dL_pass_15 (by decide) ?_
    exact z_iret hx hb hr hP hK hD hS dL_pass_16 hlocks (Or.inl ⟨rfl, r, w1, hq, rfl⟩)

set_option maxHeartbeats 4000000 in
set_option maxRecDepth 100000 in
theorem w_review (l : Launch) (g : zG) (ua ar oa : Nat) (c0 : Int32) (W1 : va_W) (x1 x2 : Int32) (f : Nat → Int64) (post : Int32 → va_W → Prop) (XE : String → Prop) (hM : zXi l yX1_review wsX1_review ({ frames := 7, cells := 4, slots := 24, locals := 125 } : Room) [.ref ua, .int x1, .int x2] g ((ua, .inr (1, [.ref ar, .int c0])) :: W1) post XE 4 24) (hXE : ∀ E, XE E → E = "java/lang/IndexOutOfBoundsException" ∨ E = "java/lang/IllegalArgumentException" ∨ E = "java/lang/IllegalStateException") : zWi l yL_review wsL_review ({ frames := 8, cells := 4, slots := 24, locals := 180 } : Room) [.ref ua, .int x1, .int x2, .ref oa] g ([(oa, .inl (g.2.2.2, 1, .inr (.inl f)))] ++ (((ua, .inr (1, [.ref ar, .int c0])) :: W1))) (fun q w => (q = nI 0 ∧ ∃ (r : Int32) (w1 : va_W), post r w1 ∧ w = [(oa, .inl (g.2.2.2, 1, .inr (.inl (vp_updL f 0 r.toInt64))))] ++ w1) ∨ (w = [(oa, .inl (g.2.2.2, 1, .inr (.inl f)))] ++ ((ua, .inr (1, [.ref ar, .int c0])) :: W1) ∧ ((XE "java/lang/IndexOutOfBoundsException" ∧ q = nI 1) ∨ (XE "java/lang/IllegalArgumentException" ∧ q = nI 2) ∨ (XE "java/lang/IllegalStateException" ∧ q = nI 3)))) 4 24 := by
  intro sz A hAe
  refine va_MetW (cc := cL_review) (maxL := 5) (ret := some .int) (by decide) rfl ?_
  intro p e s m args below meth c s₁ B hml hv
  obtain ⟨rfl, ⟨hsz, hP, hK, hD0⟩, hX⟩ := hv
  have hx := B.exec
  have hb := B.bytes
  have hr := B.returns
  have hts := atoms_spec (ws := wsL_review) B.pre
  have hown : s.vm.findClass RL = some m.cls := findClass_of_methodNamed B.named
  have hlocks := B.notSynchronized
  obtain ⟨hD, hA, hS⟩ := z_in hsz hAe hD0
  have hl := lv_entry ([.ref ua, .int x1, .int x2, .ref oa]) (n := 5) (Nat.le_of_ble_eq_true rfl)
  rw [lg_entry_eq]
  generalize (lg_sl ([.ref ua, .int x1, .int x2, .ref oa]) ++ List.replicate (5 - (lg_sl ([.ref ua, .int x1, .int x2, .ref oa])).length) Slot.unset).toArray = ls at hl ⊢
  have hl : lv_has ls 5 [(0, .ref ua), (1, .int x1), (2, .int x2), (3, .ref oa)] := hl
  have htab : c.exceptionTable.toList = tableOf [(0, 10, 13, 25), (0, 10, 17, 13), (0, 10, 21, 15)] := vx_table (x := yL_review) B (hts (.codeWith yL_review cL_review 5 (some .int) [(0, 10, 13, 25), (0, 10, 17, 13), (0, 10, 21, 15)]) (by decide +kernel))
  refine lv_aload_n hx hb dL_review_0 rfl (lv_at hl 3 rfl) ?_
  refine lv_iconst (v := nI 0) hx hb dL_review_1 (by decide) ?_
  refine lv_aload_n hx hb dL_review_2 rfl (lv_at hl 0 rfl) ?_
  refine lv_iload_n hx hb dL_review_3 rfl (lv_at hl 1 rfl) ?_
  refine lv_iload_n hx hb dL_review_4 rfl (lv_at hl 2 rfl) ?_
  have hP : va_P g.1 vwCl ([(oa, .inl (g.2.2.2, 1, .inr (.inl f)))] ++ ((ua, .inr (1, [.ref ar, .int c0])) :: W1) ++ []) s.heap := by rw [List.append_nil]; exact hP
  have hD : va_D A ([(oa, .inl (g.2.2.2, 1, .inr (.inl f)))] ++ ((ua, .inr (1, [.ref ar, .int c0])) :: W1) ++ []) := by rw [List.append_nil]; exact hD
  refine z_axi (wa := [(oa, .inl (g.2.2.2, 1, .inr (.inl f)))]) (wc := ((ua, .inr (1, [.ref ar, .int c0])) :: W1)) (wb := []) (vx_runV (As := [.int x1, .int x2]) (rest := [.int (nI 0), .ref oa]) ⟨hx, hb, hml, hown, hts⟩ (hM s.heap.size _ rfl) (cwV 2 hts gL_review_X1_review rfl rfl rfl (by decide +kernel) ⟨Nat.le_of_ble_eq_true rfl, Nat.le_of_ble_eq_true rfl⟩) (zpreXV (wa := [(oa, .inl (g.2.2.2, 1, .inr (.inl f)))]) (wc := ((ua, .inr (1, [.ref ar, .int c0])) :: W1)) (wb := []) (q0 := 0) (ci := 1) (T := TX1) (N := 2) hK hP hD hS hA hX rfl rfl) rfl rfl hl.1 rfl (lv_room (Nat.le_of_ble_eq_true rfl)) dL_review_5 ⟨Nat.le_of_ble_eq_true rfl, Nat.le_of_ble_eq_true rfl⟩) hP hD hS hA (fun E ce q9 H locs hE hP hD hS hc1 hc2 hc3 => ?_) (fun r w1 H locs hq hP hD hS => ?_)
  · rw [List.append_nil] at hP hD
    rcases hXE E hE with rfl | rfl | rfl
    · refine vx_catch (own := RL) (E := "java/lang/IndexOutOfBoundsException") (name := "java/lang/IndexOutOfBoundsException") hown ([] : List ExceptionTableEntry) ⟨0, 10, 13, 25⟩ [⟨0, 10, 17, 13⟩, ⟨0, 10, 21, 15⟩] htab (fun z hz => absurd hz List.not_mem_nil) rfl (by decide) (hts (.classLink RL 25 "java/lang/IndexOutOfBoundsException") (by decide +kernel)) (va_Nw.use rfl (hX.2.2.1 (.castable "java/lang/IndexOutOfBoundsException" "java/lang/IndexOutOfBoundsException") (by decide +kernel))) hc1 hc2 hc3 ?_
      refine lv_astore (lv' := [(4, .ref q9), (0, .ref ua), (1, .int x1), (2, .int x2), (3, .ref oa)]) hx hb dL_review_13 hl (by decide) rfl (fun ls hl => ?_)
      refine lv_iconst (v := nI 1) hx hb dL_review_15 (by decide) ?_
      exact z_iret hx hb hr hP hK hD hS dL_review_16 hlocks (Or.inr ⟨rfl, Or.inl ⟨hE, rfl⟩⟩)
    · have hpass : ∀ z ∈ ([⟨0, 10, 13, 25⟩] : List ExceptionTableEntry), covers z 5 = false ∨ (z.catchType ≠ 0 ∧ ∃ nm : String, (Cond.classLink RL z.catchType nm).before ([.ref ua, .int x1, .int x2, .ref oa] : List Value).toArray s = true ∧ va_Nc "java/lang/IllegalArgumentException" nm s) := by
        intro z hz
        simp only [List.mem_cons, List.not_mem_nil, or_false] at hz
        subst hz
        · exact Or.inr ⟨by decide, "java/lang/IndexOutOfBoundsException", hts (.classLink RL 25 "java/lang/IndexOutOfBoundsException") (by decide +kernel), hX.2.2.2.2.2 ("java/lang/IllegalArgumentException", "java/lang/IndexOutOfBoundsException") (by decide +kernel)⟩
      refine vx_catch (own := RL) (E := "java/lang/IllegalArgumentException") (name := "java/lang/IllegalArgumentException") hown ([⟨0, 10, 13, 25⟩] : List ExceptionTableEntry) ⟨0, 10, 17, 13⟩ [⟨0, 10, 21, 15⟩] htab hpass rfl (by decide) (hts (.classLink RL 13 "java/lang/IllegalArgumentException") (by decide +kernel)) (va_Nw.use rfl (hX.2.2.1 (.castable "java/lang/IllegalArgumentException" "java/lang/IllegalArgumentException") (by decide +kernel))) hc1 hc2 hc3 ?_
      refine lv_astore (lv' := [(4, .ref q9), (0, .ref ua), (1, .int x1), (2, .int x2), (3, .ref oa)]) hx hb dL_review_17 hl (by decide) rfl (fun ls hl => ?_)
      refine lv_iconst (v := nI 2) hx hb dL_review_19 (by decide) ?_
      exact z_iret hx hb hr hP hK hD hS dL_review_20 hlocks (Or.inr ⟨rfl, Or.inr (Or.inl ⟨hE, rfl⟩)⟩)
    · have hpass : ∀ z ∈ ([⟨0, 10, 13, 25⟩, ⟨0, 10, 17, 13⟩] : List ExceptionTableEntry), covers z 5 = false ∨ (z.catchType ≠ 0 ∧ ∃ nm : String, (Cond.classLink RL z.catchType nm).before ([.ref ua, .int x1, .int x2, .ref oa] : List Value).toArray s = true ∧ va_Nc "java/lang/IllegalStateException" nm s) := by
        intro z hz
        simp only [List.mem_cons, List.not_mem_nil, or_false] at hz
        rcases hz with rfl | rfl
        · exact Or.inr ⟨by decide, "java/lang/IndexOutOfBoundsException", hts (.classLink RL 25 "java/lang/IndexOutOfBoundsException") (by decide +kernel), hX.2.2.2.2.2 ("java/lang/IllegalStateException", "java/lang/IndexOutOfBoundsException") (by decide +kernel)⟩
        · exact Or.inr ⟨by decide, "java/lang/IllegalArgumentException", hts (.classLink RL 13 "java/lang/IllegalArgumentException") (by decide +kernel), hX.2.2.2.2.2 ("java/lang/IllegalStateException", "java/lang/IllegalArgumentException") (by decide +kernel)⟩
      refine vx_catch (own := RL) (E := "java/lang/IllegalStateException") (name := "java/lang/IllegalStateException") hown ([⟨0, 10, 13, 25⟩, ⟨0, 10, 17, 13⟩] : List ExceptionTableEntry) ⟨0, 10, 21, 15⟩ [] htab hpass rfl (by decide) (hts (.classLink RL 15 "java/lang/IllegalStateException") (by decide +kernel)) (va_Nw.use rfl (hX.2.2.1 (.castable "java/lang/IllegalStateException" "java/lang/IllegalStateException") (by decide +kernel))) hc1 hc2 hc3 ?_
      refine lv_astore (lv' := [(4, .ref q9), (0, .ref ua), (1, .int x1), (2, .int x2), (3, .ref oa)]) hx hb dL_review_21 hl (by decide) rfl (fun ls hl => ?_)
      refine lv_iconst (v := nI 3) hx hb dL_review_23 (by decide) ?_
      exact z_iret hx hb hr hP hK hD hS dL_review_24 hlocks (Or.inr ⟨rfl, Or.inr (Or.inr (⟨hE, rfl⟩))⟩)
  · rw [List.append_nil] at hP hD
    have hq0 := hq
    refine lv_i2l hx hb dL_review_8 rfl ?_
    refine z_last hx hb hK hP hD hS 0 rfl dL_review_9 (fun H locs hP hD hS => ?_)
    have hP : va_P g.1 vwCl ([(oa, .inl (g.2.2.2, 1, .inr (.inl (vp_updL f 0 r.toInt64))))] ++ w1) H := hP
    have hD : va_D A ([(oa, .inl (g.2.2.2, 1, .inr (.inl (vp_updL f 0 r.toInt64))))] ++ w1) := hD
    refine lv_goto (tgt := 25) hx hb dL_review_10 (by decide) ?_
    refine lv_iconst (v := nI 0) hx hb dL_review_25 (by decide) ?_
    exact z_iret hx hb hr hP hK hD hS dL_review_26 hlocks (Or.inl ⟨rfl, r, w1, hq, rfl⟩)

set_option maxHeartbeats 4000000 in
set_option maxRecDepth 100000 in
theorem w_lengthen (l : Launch) (g : zG) (ua ar oa : Nat) (c0 : Int32) (W1 : va_W) (x1 x2 x3 : Int32) (f : Nat → Int64) (post : Int32 → va_W → Prop) (XE : String → Prop) (hM : zXi l yX1_lengthen wsX1_lengthen ({ frames := 7, cells := 5, slots := 30, locals := 125 } : Room) [.ref ua, .int x1, .int x2, .int x3] g ((ua, .inr (1, [.ref ar, .int c0])) :: W1) post XE 5 30) (hXE : ∀ E, XE E → E = "java/lang/IndexOutOfBoundsException" ∨ E = "java/lang/IllegalArgumentException" ∨ E = "java/lang/IllegalStateException") : zWi l yL_lengthen wsL_lengthen ({ frames := 8, cells := 5, slots := 30, locals := 180 } : Room) [.ref ua, .int x1, .int x2, .int x3, .ref oa] g ([(oa, .inl (g.2.2.2, 1, .inr (.inl f)))] ++ (((ua, .inr (1, [.ref ar, .int c0])) :: W1))) (fun q w => (q = nI 0 ∧ ∃ (r : Int32) (w1 : va_W), post r w1 ∧ w = [(oa, .inl (g.2.2.2, 1, .inr (.inl (vp_updL f 0 r.toInt64))))] ++ w1) ∨ (w = [(oa, .inl (g.2.2.2, 1, .inr (.inl f)))] ++ ((ua, .inr (1, [.ref ar, .int c0])) :: W1) ∧ ((XE "java/lang/IndexOutOfBoundsException" ∧ q = nI 1) ∨ (XE "java/lang/IllegalArgumentException" ∧ q = nI 2) ∨ (XE "java/lang/IllegalStateException" ∧ q = nI 3)))) 5 30 := by
  intro sz A hAe
  refine va_MetW (cc := cL_lengthen) (maxL := 6) (ret := some .int) (by decide) rfl ?_
  intro p e s m args below meth c s₁ B hml hv
  obtain ⟨rfl, ⟨hsz, hP, hK, hD0⟩, hX⟩ := hv
  have hx := B.exec
  have hb := B.bytes
  have hr := B.returns
  have hts := atoms_spec (ws := wsL_lengthen) B.pre
  have hown : s.vm.findClass RL = some m.cls := findClass_of_methodNamed B.named
  have hlocks := B.notSynchronized
  obtain ⟨hD, hA, hS⟩ := z_in hsz hAe hD0
  have hl := lv_entry ([.ref ua, .int x1, .int x2, .int x3, .ref oa]) (n := 6) (Nat.le_of_ble_eq_true rfl)
  rw [lg_entry_eq]
  generalize (lg_sl ([.ref ua, .int x1, .int x2, .int x3, .ref oa]) ++ List.replicate (6 - (lg_sl ([.ref ua, .int x1, .int x2, .int x3, .ref oa])).length) Slot.unset).toArray = ls at hl ⊢
  have hl : lv_has ls 6 [(0, .ref ua), (1, .int x1), (2, .int x2), (3, .int x3), (4, .ref oa)] := hl
  have htab : c.exceptionTable.toList = tableOf [(0, 12, 15, 25), (0, 12, 19, 13), (0, 12, 23, 15)] := vx_table (x := yL_lengthen) B (hts (.codeWith yL_lengthen cL_lengthen 6 (some .int) [(0, 12, 15, 25), (0, 12, 19, 13), (0, 12, 23, 15)]) (by decide +kernel))
  refine lv_aload hx hb dL_lengthen_0 (lv_at hl 4 rfl) ?_
  refine lv_iconst (v := nI 0) hx hb dL_lengthen_2 (by decide) ?_
  refine lv_aload_n hx hb dL_lengthen_3 rfl (lv_at hl 0 rfl) ?_
  refine lv_iload_n hx hb dL_lengthen_4 rfl (lv_at hl 1 rfl) ?_
  refine lv_iload_n hx hb dL_lengthen_5 rfl (lv_at hl 2 rfl) ?_
  refine lv_iload_n hx hb dL_lengthen_6 rfl (lv_at hl 3 rfl) ?_
  have hP : va_P g.1 vwCl ([(oa, .inl (g.2.2.2, 1, .inr (.inl f)))] ++ ((ua, .inr (1, [.ref ar, .int c0])) :: W1) ++ []) s.heap := by rw [List.append_nil]; exact hP
  have hD : va_D A ([(oa, .inl (g.2.2.2, 1, .inr (.inl f)))] ++ ((ua, .inr (1, [.ref ar, .int c0])) :: W1) ++ []) := by rw [List.append_nil]; exact hD
  refine z_axi (wa := [(oa, .inl (g.2.2.2, 1, .inr (.inl f)))]) (wc := ((ua, .inr (1, [.ref ar, .int c0])) :: W1)) (wb := []) (vx_runV (As := [.int x1, .int x2, .int x3]) (rest := [.int (nI 0), .ref oa]) ⟨hx, hb, hml, hown, hts⟩ (hM s.heap.size _ rfl) (cwV 3 hts gL_lengthen_X1_lengthen rfl rfl rfl (by decide +kernel) ⟨Nat.le_of_ble_eq_true rfl, Nat.le_of_ble_eq_true rfl⟩) (zpreXV (wa := [(oa, .inl (g.2.2.2, 1, .inr (.inl f)))]) (wc := ((ua, .inr (1, [.ref ar, .int c0])) :: W1)) (wb := []) (q0 := 0) (ci := 1) (T := TX1) (N := 2) hK hP hD hS hA hX rfl rfl) rfl rfl hl.1 rfl (lv_room (Nat.le_of_ble_eq_true rfl)) dL_lengthen_7 ⟨Nat.le_of_ble_eq_true rfl, Nat.le_of_ble_eq_true rfl⟩) hP hD hS hA (fun E ce q9 H locs hE hP hD hS hc1 hc2 hc3 => ?_) (fun r w1 H locs hq hP hD hS => ?_)
  · rw [List.append_nil] at hP hD
    rcases hXE E hE with rfl | rfl | rfl
    · refine vx_catch (own := RL) (E := "java/lang/IndexOutOfBoundsException") (name := "java/lang/IndexOutOfBoundsException") hown ([] : List ExceptionTableEntry) ⟨0, 12, 15, 25⟩ [⟨0, 12, 19, 13⟩, ⟨0, 12, 23, 15⟩] htab (fun z hz => absurd hz List.not_mem_nil) rfl (by decide) (hts (.classLink RL 25 "java/lang/IndexOutOfBoundsException") (by decide +kernel)) (va_Nw.use rfl (hX.2.2.1 (.castable "java/lang/IndexOutOfBoundsException" "java/lang/IndexOutOfBoundsException") (by decide +kernel))) hc1 hc2 hc3 ?_
      refine lv_astore (lv' := [(5, .ref q9), (0, .ref ua), (1, .int x1), (2, .int x2), (3, .int x3), (4, .ref oa)]) hx hb dL_lengthen_15 hl (by decide) rfl (fun ls hl => ?_)
      refine lv_iconst (v := nI 1) hx hb dL_lengthen_17 (by decide) ?_
      exact z_iret hx hb hr hP hK hD hS dL_lengthen_18 hlocks (Or.inr ⟨rfl, Or.inl ⟨hE, rfl⟩⟩)
    · have hpass : ∀ z ∈ ([⟨0, 12, 15, 25⟩] : List ExceptionTableEntry), covers z 7 = false ∨ (z.catchType ≠ 0 ∧ ∃ nm : String, (Cond.classLink RL z.catchType nm).before ([.ref ua, .int x1, .int x2, .int x3, .ref oa] : List Value).toArray s = true ∧ va_Nc "java/lang/IllegalArgumentException" nm s) := by
        intro z hz
        simp only [List.mem_cons, List.not_mem_nil, or_false] at hz
        subst hz
        · exact Or.inr ⟨by decide, "java/lang/IndexOutOfBoundsException", hts (.classLink RL 25 "java/lang/IndexOutOfBoundsException") (by decide +kernel), hX.2.2.2.2.2 ("java/lang/IllegalArgumentException", "java/lang/IndexOutOfBoundsException") (by decide +kernel)⟩
      refine vx_catch (own := RL) (E := "java/lang/IllegalArgumentException") (name := "java/lang/IllegalArgumentException") hown ([⟨0, 12, 15, 25⟩] : List ExceptionTableEntry) ⟨0, 12, 19, 13⟩ [⟨0, 12, 23, 15⟩] htab hpass rfl (by decide) (hts (.classLink RL 13 "java/lang/IllegalArgumentException") (by decide +kernel)) (va_Nw.use rfl (hX.2.2.1 (.castable "java/lang/IllegalArgumentException" "java/lang/IllegalArgumentException") (by decide +kernel))) hc1 hc2 hc3 ?_
      refine lv_astore (lv' := [(5, .ref q9), (0, .ref ua), (1, .int x1), (2, .int x2), (3, .int x3), (4, .ref oa)]) hx hb dL_lengthen_19 hl (by decide) rfl (fun ls hl => ?_)
      refine lv_iconst (v := nI 2) hx hb dL_lengthen_21 (by decide) ?_
      exact z_iret hx hb hr hP hK hD hS dL_lengthen_22 hlocks (Or.inr ⟨rfl, Or.inr (Or.inl ⟨hE, rfl⟩)⟩)
    · have hpass : ∀ z ∈ ([⟨0, 12, 15, 25⟩, ⟨0, 12, 19, 13⟩] : List ExceptionTableEntry), covers z 7 = false ∨ (z.catchType ≠ 0 ∧ ∃ nm : String, (Cond.classLink RL z.catchType nm).before ([.ref ua, .int x1, .int x2, .int x3, .ref oa] : List Value).toArray s = true ∧ va_Nc "java/lang/IllegalStateException" nm s) := by
        intro z hz
        simp only [List.mem_cons, List.not_mem_nil, or_false] at hz
        rcases hz with rfl | rfl
        · exact Or.inr ⟨by decide, "java/lang/IndexOutOfBoundsException", hts (.classLink RL 25 "java/lang/IndexOutOfBoundsException") (by decide +kernel), hX.2.2.2.2.2 ("java/lang/IllegalStateException", "java/lang/IndexOutOfBoundsException") (by decide +kernel)⟩
        · exact Or.inr ⟨by decide, "java/lang/IllegalArgumentException", hts (.classLink RL 13 "java/lang/IllegalArgumentException") (by decide +kernel), hX.2.2.2.2.2 ("java/lang/IllegalStateException", "java/lang/IllegalArgumentException") (by decide +kernel)⟩
      refine vx_catch (own := RL) (E := "java/lang/IllegalStateException") (name := "java/lang/IllegalStateException") hown ([⟨0, 12, 15, 25⟩, ⟨0, 12, 19, 13⟩] : List ExceptionTableEntry) ⟨0, 12, 23, 15⟩ [] htab hpass rfl (by decide) (hts (.classLink RL 15 "java/lang/IllegalStateException") (by decide +kernel)) (va_Nw.use rfl (hX.2.2.1 (.castable "java/lang/IllegalStateException" "java/lang/IllegalStateException") (by decide +kernel))) hc1 hc2 hc3 ?_
      refine lv_astore (lv' := [(5, .ref q9), (0, .ref ua), (1, .int x1), (2, .int x2), (3, .int x3), (4, .ref oa)]) hx hb dL_lengthen_23 hl (by decide) rfl (fun ls hl => ?_)
      refine lv_iconst (v := nI 3) hx hb dL_lengthen_25 (by decide) ?_
      exact z_iret hx hb hr hP hK hD hS dL_lengthen_26 hlocks (Or.inr ⟨rfl, Or.inr (Or.inr (⟨hE, rfl⟩))⟩)
  · rw [List.append_nil] at hP hD
    have hq0 := hq
    refine lv_i2l hx hb dL_lengthen_10 rfl ?_
    refine z_last hx hb hK hP hD hS 0 rfl dL_lengthen_11 (fun H locs hP hD hS => ?_)
    have hP : va_P g.1 vwCl ([(oa, .inl (g.2.2.2, 1, .inr (.inl (vp_updL f 0 r.toInt64))))] ++ w1) H := hP
    have hD : va_D A ([(oa, .inl (g.2.2.2, 1, .inr (.inl (vp_updL f 0 r.toInt64))))] ++ w1) := hD
    refine lv_goto (tgt := 27) hx hb dL_lengthen_12 (by decide) ?_
    refine lv_iconst (v := nI 0) hx hb dL_lengthen_27 (by decide) ?_
    exact z_iret hx hb hr hP hK hD hS dL_lengthen_28 hlocks (Or.inl ⟨rfl, r, w1, hq, rfl⟩)

set_option maxHeartbeats 4000000 in
set_option maxRecDepth 100000 in
theorem w_shorten (l : Launch) (g : zG) (ua ar oa : Nat) (c0 : Int32) (W1 : va_W) (x1 x2 : Int32) (f : Nat → Int64) (post : Int32 → va_W → Prop) (XE : String → Prop) (hM : zXi l yX1_shorten wsX1_shorten ({ frames := 7, cells := 3, slots := 18, locals := 125 } : Room) [.ref ua, .int x1, .int x2] g ((ua, .inr (1, [.ref ar, .int c0])) :: W1) post XE 3 18) (hXE : ∀ E, XE E → E = "java/lang/IndexOutOfBoundsException" ∨ E = "java/lang/IllegalArgumentException" ∨ E = "java/lang/IllegalStateException") : zWi l yL_shorten wsL_shorten ({ frames := 8, cells := 3, slots := 18, locals := 180 } : Room) [.ref ua, .int x1, .int x2, .ref oa] g ([(oa, .inl (g.2.2.2, 1, .inr (.inl f)))] ++ (((ua, .inr (1, [.ref ar, .int c0])) :: W1))) (fun q w => (q = nI 0 ∧ ∃ (r : Int32) (w1 : va_W), post r w1 ∧ w = [(oa, .inl (g.2.2.2, 1, .inr (.inl (vp_updL f 0 r.toInt64))))] ++ w1) ∨ (w = [(oa, .inl (g.2.2.2, 1, .inr (.inl f)))] ++ ((ua, .inr (1, [.ref ar, .int c0])) :: W1) ∧ ((XE "java/lang/IndexOutOfBoundsException" ∧ q = nI 1) ∨ (XE "java/lang/IllegalArgumentException" ∧ q = nI 2) ∨ (XE "java/lang/IllegalStateException" ∧ q = nI 3)))) 3 18 := by
  intro sz A hAe
  refine va_MetW (cc := cL_shorten) (maxL := 5) (ret := some .int) (by decide) rfl ?_
  intro p e s m args below meth c s₁ B hml hv
  obtain ⟨rfl, ⟨hsz, hP, hK, hD0⟩, hX⟩ := hv
  have hx := B.exec
  have hb := B.bytes
  have hr := B.returns
  have hts := atoms_spec (ws := wsL_shorten) B.pre
  have hown : s.vm.findClass RL = some m.cls := findClass_of_methodNamed B.named
  have hlocks := B.notSynchronized
  obtain ⟨hD, hA, hS⟩ := z_in hsz hAe hD0
  have hl := lv_entry ([.ref ua, .int x1, .int x2, .ref oa]) (n := 5) (Nat.le_of_ble_eq_true rfl)
  rw [lg_entry_eq]
  generalize (lg_sl ([.ref ua, .int x1, .int x2, .ref oa]) ++ List.replicate (5 - (lg_sl ([.ref ua, .int x1, .int x2, .ref oa])).length) Slot.unset).toArray = ls at hl ⊢
  have hl : lv_has ls 5 [(0, .ref ua), (1, .int x1), (2, .int x2), (3, .ref oa)] := hl
  have htab : c.exceptionTable.toList = tableOf [(0, 10, 13, 25), (0, 10, 17, 13), (0, 10, 21, 15)] := vx_table (x := yL_shorten) B (hts (.codeWith yL_shorten cL_shorten 5 (some .int) [(0, 10, 13, 25), (0, 10, 17, 13), (0, 10, 21, 15)]) (by decide +kernel))
  refine lv_aload_n hx hb dL_shorten_0 rfl (lv_at hl 3 rfl) ?_
  refine lv_iconst (v := nI 0) hx hb dL_shorten_1 (by decide) ?_
  refine lv_aload_n hx hb dL_shorten_2 rfl (lv_at hl 0 rfl) ?_
  refine lv_iload_n hx hb dL_shorten_3 rfl (lv_at hl 1 rfl) ?_
  refine lv_iload_n hx hb dL_shorten_4 rfl (lv_at hl 2 rfl) ?_
  have hP : va_P g.1 vwCl ([(oa, .inl (g.2.2.2, 1, .inr (.inl f)))] ++ ((ua, .inr (1, [.ref ar, .int c0])) :: W1) ++ []) s.heap := by rw [List.append_nil]; exact hP
  have hD : va_D A ([(oa, .inl (g.2.2.2, 1, .inr (.inl f)))] ++ ((ua, .inr (1, [.ref ar, .int c0])) :: W1) ++ []) := by rw [List.append_nil]; exact hD
  refine z_axi (wa := [(oa, .inl (g.2.2.2, 1, .inr (.inl f)))]) (wc := ((ua, .inr (1, [.ref ar, .int c0])) :: W1)) (wb := []) (vx_runV (As := [.int x1, .int x2]) (rest := [.int (nI 0), .ref oa]) ⟨hx, hb, hml, hown, hts⟩ (hM s.heap.size _ rfl) (cwV 2 hts gL_shorten_X1_shorten rfl rfl rfl (by decide +kernel) ⟨Nat.le_of_ble_eq_true rfl, Nat.le_of_ble_eq_true rfl⟩) (zpreXV (wa := [(oa, .inl (g.2.2.2, 1, .inr (.inl f)))]) (wc := ((ua, .inr (1, [.ref ar, .int c0])) :: W1)) (wb := []) (q0 := 0) (ci := 1) (T := TX1) (N := 2) hK hP hD hS hA hX rfl rfl) rfl rfl hl.1 rfl (lv_room (Nat.le_of_ble_eq_true rfl)) dL_shorten_5 ⟨Nat.le_of_ble_eq_true rfl, Nat.le_of_ble_eq_true rfl⟩) hP hD hS hA (fun E ce q9 H locs hE hP hD hS hc1 hc2 hc3 => ?_) (fun r w1 H locs hq hP hD hS => ?_)
  · rw [List.append_nil] at hP hD
    rcases hXE E hE with rfl | rfl | rfl
    · refine vx_catch (own := RL) (E := "java/lang/IndexOutOfBoundsException") (name := "java/lang/IndexOutOfBoundsException") hown ([] : List ExceptionTableEntry) ⟨0, 10, 13, 25⟩ [⟨0, 10, 17, 13⟩, ⟨0, 10, 21, 15⟩] htab (fun z hz => absurd hz List.not_mem_nil) rfl (by decide) (hts (.classLink RL 25 "java/lang/IndexOutOfBoundsException") (by decide +kernel)) (va_Nw.use rfl (hX.2.2.1 (.castable "java/lang/IndexOutOfBoundsException" "java/lang/IndexOutOfBoundsException") (by decide +kernel))) hc1 hc2 hc3 ?_
      refine lv_astore (lv' := [(4, .ref q9), (0, .ref ua), (1, .int x1), (2, .int x2), (3, .ref oa)]) hx hb dL_shorten_13 hl (by decide) rfl (fun ls hl => ?_)
      refine lv_iconst (v := nI 1) hx hb dL_shorten_15 (by decide) ?_
      exact z_iret hx hb hr hP hK hD hS dL_shorten_16 hlocks (Or.inr ⟨rfl, Or.inl ⟨hE, rfl⟩⟩)
    · have hpass : ∀ z ∈ ([⟨0, 10, 13, 25⟩] : List ExceptionTableEntry), covers z 5 = false ∨ (z.catchType ≠ 0 ∧ ∃ nm : String, (Cond.classLink RL z.catchType nm).before ([.ref ua, .int x1, .int x2, .ref oa] : List Value).toArray s = true ∧ va_Nc "java/lang/IllegalArgumentException" nm s) := by
        intro z hz
        simp only [List.mem_cons, List.not_mem_nil, or_false] at hz
        subst hz
        · exact Or.inr ⟨by decide, "java/lang/IndexOutOfBoundsException", hts (.classLink RL 25 "java/lang/IndexOutOfBoundsException") (by decide +kernel), hX.2.2.2.2.2 ("java/lang/IllegalArgumentException", "java/lang/IndexOutOfBoundsException") (by decide +kernel)⟩
      refine vx_catch (own := RL) (E := "java/lang/IllegalArgumentException") (name := "java/lang/IllegalArgumentException") hown ([⟨0, 10, 13, 25⟩] : List ExceptionTableEntry) ⟨0, 10, 17, 13⟩ [⟨0, 10, 21, 15⟩] htab hpass rfl (by decide) (hts (.classLink RL 13 "java/lang/IllegalArgumentException") (by decide +kernel)) (va_Nw.use rfl (hX.2.2.1 (.castable "java/lang/IllegalArgumentException" "java/lang/IllegalArgumentException") (by decide +kernel))) hc1 hc2 hc3 ?_
      refine lv_astore (lv' := [(4, .ref q9), (0, .ref ua), (1, .int x1), (2, .int x2), (3, .ref oa)]) hx hb dL_shorten_17 hl (by decide) rfl (fun ls hl => ?_)
      refine lv_iconst (v := nI 2) hx hb dL_shorten_19 (by decide) ?_
      exact z_iret hx hb hr hP hK hD hS dL_shorten_20 hlocks (Or.inr ⟨rfl, Or.inr (Or.inl ⟨hE, rfl⟩)⟩)
    · have hpass : ∀ z ∈ ([⟨0, 10, 13, 25⟩, ⟨0, 10, 17, 13⟩] : List ExceptionTableEntry), covers z 5 = false ∨ (z.catchType ≠ 0 ∧ ∃ nm : String, (Cond.classLink RL z.catchType nm).before ([.ref ua, .int x1, .int x2, .ref oa] : List Value).toArray s = true ∧ va_Nc "java/lang/IllegalStateException" nm s) := by
        intro z hz
        simp only [List.mem_cons, List.not_mem_nil, or_false] at hz
        rcases hz with rfl | rfl
        · exact Or.inr ⟨by decide, "java/lang/IndexOutOfBoundsException", hts (.classLink RL 25 "java/lang/IndexOutOfBoundsException") (by decide +kernel), hX.2.2.2.2.2 ("java/lang/IllegalStateException", "java/lang/IndexOutOfBoundsException") (by decide +kernel)⟩
        · exact Or.inr ⟨by decide, "java/lang/IllegalArgumentException", hts (.classLink RL 13 "java/lang/IllegalArgumentException") (by decide +kernel), hX.2.2.2.2.2 ("java/lang/IllegalStateException", "java/lang/IllegalArgumentException") (by decide +kernel)⟩
      refine vx_catch (own := RL) (E := "java/lang/IllegalStateException") (name := "java/lang/IllegalStateException") hown ([⟨0, 10, 13, 25⟩, ⟨0, 10, 17, 13⟩] : List ExceptionTableEntry) ⟨0, 10, 21, 15⟩ [] htab hpass rfl (by decide) (hts (.classLink RL 15 "java/lang/IllegalStateException") (by decide +kernel)) (va_Nw.use rfl (hX.2.2.1 (.castable "java/lang/IllegalStateException" "java/lang/IllegalStateException") (by decide +kernel))) hc1 hc2 hc3 ?_
      refine lv_astore (lv' := [(4, .ref q9), (0, .ref ua), (1, .int x1), (2, .int x2), (3, .ref oa)]) hx hb dL_shorten_21 hl (by decide) rfl (fun ls hl => ?_)
      refine lv_iconst (v := nI 3) hx hb dL_shorten_23 (by decide) ?_
      exact z_iret hx hb hr hP hK hD hS dL_shorten_24 hlocks (Or.inr ⟨rfl, Or.inr (Or.inr (⟨hE, rfl⟩))⟩)
  · rw [List.append_nil] at hP hD
    have hq0 := hq
    refine lv_i2l hx hb dL_shorten_8 rfl ?_
    refine z_last hx hb hK hP hD hS 0 rfl dL_shorten_9 (fun H locs hP hD hS => ?_)
    have hP : va_P g.1 vwCl ([(oa, .inl (g.2.2.2, 1, .inr (.inl (vp_updL f 0 r.toInt64))))] ++ w1) H := hP
    have hD : va_D A ([(oa, .inl (g.2.2.2, 1, .inr (.inl (vp_updL f 0 r.toInt64))))] ++ w1) := hD
    refine lv_goto (tgt := 25) hx hb dL_shorten_10 (by decide) ?_
    refine lv_iconst (v := nI 0) hx hb dL_shorten_25 (by decide) ?_
    exact z_iret hx hb hr hP hK hD hS dL_shorten_26 hlocks (Or.inl ⟨rfl, r, w1, hq, rfl⟩)

set_option maxHeartbeats 4000000 in
set_option maxRecDepth 100000 in
theorem w_cut (l : Launch) (g : zG) (ua ar oa : Nat) (c0 : Int32) (W1 : va_W) (x1 x2 : Int32) (f : Nat → Int64) (post : Int32 → va_W → Prop) (XE : String → Prop) (hM : zXi l yX1_cut wsX1_cut ({ frames := 7, cells := 3, slots := 18, locals := 125 } : Room) [.ref ua, .int x1, .int x2] g ((ua, .inr (1, [.ref ar, .int c0])) :: W1) post XE 3 18) (hXE : ∀ E, XE E → E = "java/lang/IndexOutOfBoundsException" ∨ E = "java/lang/IllegalArgumentException" ∨ E = "java/lang/IllegalStateException") : zWi l yL_cut wsL_cut ({ frames := 8, cells := 3, slots := 18, locals := 180 } : Room) [.ref ua, .int x1, .int x2, .ref oa] g ([(oa, .inl (g.2.2.2, 1, .inr (.inl f)))] ++ (((ua, .inr (1, [.ref ar, .int c0])) :: W1))) (fun q w => (q = nI 0 ∧ ∃ (r : Int32) (w1 : va_W), post r w1 ∧ w = [(oa, .inl (g.2.2.2, 1, .inr (.inl (vp_updL f 0 r.toInt64))))] ++ w1) ∨ (w = [(oa, .inl (g.2.2.2, 1, .inr (.inl f)))] ++ ((ua, .inr (1, [.ref ar, .int c0])) :: W1) ∧ ((XE "java/lang/IndexOutOfBoundsException" ∧ q = nI 1) ∨ (XE "java/lang/IllegalArgumentException" ∧ q = nI 2) ∨ (XE "java/lang/IllegalStateException" ∧ q = nI 3)))) 3 18 := by
  intro sz A hAe
  refine va_MetW (cc := cL_cut) (maxL := 5) (ret := some .int) (by decide) rfl ?_
  intro p e s m args below meth c s₁ B hml hv
  obtain ⟨rfl, ⟨hsz, hP, hK, hD0⟩, hX⟩ := hv
  have hx := B.exec
  have hb := B.bytes
  have hr := B.returns
  have hts := atoms_spec (ws := wsL_cut) B.pre
  have hown : s.vm.findClass RL = some m.cls := findClass_of_methodNamed B.named
  have hlocks := B.notSynchronized
  obtain ⟨hD, hA, hS⟩ := z_in hsz hAe hD0
  have hl := lv_entry ([.ref ua, .int x1, .int x2, .ref oa]) (n := 5) (Nat.le_of_ble_eq_true rfl)
  rw [lg_entry_eq]
  generalize (lg_sl ([.ref ua, .int x1, .int x2, .ref oa]) ++ List.replicate (5 - (lg_sl ([.ref ua, .int x1, .int x2, .ref oa])).length) Slot.unset).toArray = ls at hl ⊢
  have hl : lv_has ls 5 [(0, .ref ua), (1, .int x1), (2, .int x2), (3, .ref oa)] := hl
  have htab : c.exceptionTable.toList = tableOf [(0, 10, 13, 25), (0, 10, 17, 13), (0, 10, 21, 15)] := vx_table (x := yL_cut) B (hts (.codeWith yL_cut cL_cut 5 (some .int) [(0, 10, 13, 25), (0, 10, 17, 13), (0, 10, 21, 15)]) (by decide +kernel))
  refine lv_aload_n hx hb dL_cut_0 rfl (lv_at hl 3 rfl) ?_
  refine lv_iconst (v := nI 0) hx hb dL_cut_1 (by decide) ?_
  refine lv_aload_n hx hb dL_cut_2 rfl (lv_at hl 0 rfl) ?_
  refine lv_iload_n hx hb dL_cut_3 rfl (lv_at hl 1 rfl) ?_
  refine lv_iload_n hx hb dL_cut_4 rfl (lv_at hl 2 rfl) ?_
  have hP : va_P g.1 vwCl ([(oa, .inl (g.2.2.2, 1, .inr (.inl f)))] ++ ((ua, .inr (1, [.ref ar, .int c0])) :: W1) ++ []) s.heap := by rw [List.append_nil]; exact hP
  have hD : va_D A ([(oa, .inl (g.2.2.2, 1, .inr (.inl f)))] ++ ((ua, .inr (1, [.ref ar, .int c0])) :: W1) ++ []) := by rw [List.append_nil]; exact hD
  refine z_axi (wa := [(oa, .inl (g.2.2.2, 1, .inr (.inl f)))]) (wc := ((ua, .inr (1, [.ref ar, .int c0])) :: W1)) (wb := []) (vx_runV (As := [.int x1, .int x2]) (rest := [.int (nI 0), .ref oa]) ⟨hx, hb, hml, hown, hts⟩ (hM s.heap.size _ rfl) (cwV 2 hts gL_cut_X1_cut rfl rfl rfl (by decide +kernel) ⟨Nat.le_of_ble_eq_true rfl, Nat.le_of_ble_eq_true rfl⟩) (zpreXV (wa := [(oa, .inl (g.2.2.2, 1, .inr (.inl f)))]) (wc := ((ua, .inr (1, [.ref ar, .int c0])) :: W1)) (wb := []) (q0 := 0) (ci := 1) (T := TX1) (N := 2) hK hP hD hS hA hX rfl rfl) rfl rfl hl.1 rfl (lv_room (Nat.le_of_ble_eq_true rfl)) dL_cut_5 ⟨Nat.le_of_ble_eq_true rfl, Nat.le_of_ble_eq_true rfl⟩) hP hD hS hA (fun E ce q9 H locs hE hP hD hS hc1 hc2 hc3 => ?_) (fun r w1 H locs hq hP hD hS => ?_)
  · rw [List.append_nil] at hP hD
    rcases hXE E hE with rfl | rfl | rfl
    · refine vx_catch (own := RL) (E := "java/lang/IndexOutOfBoundsException") (name := "java/lang/IndexOutOfBoundsException") hown ([] : List ExceptionTableEntry) ⟨0, 10, 13, 25⟩ [⟨0, 10, 17, 13⟩, ⟨0, 10, 21, 15⟩] htab (fun z hz => absurd hz List.not_mem_nil) rfl (by decide) (hts (.classLink RL 25 "java/lang/IndexOutOfBoundsException") (by decide +kernel)) (va_Nw.use rfl (hX.2.2.1 (.castable "java/lang/IndexOutOfBoundsException" "java/lang/IndexOutOfBoundsException") (by decide +kernel))) hc1 hc2 hc3 ?_
      refine lv_astore (lv' := [(4, .ref q9), (0, .ref ua), (1, .int x1), (2, .int x2), (3, .ref oa)]) hx hb dL_cut_13 hl (by decide) rfl (fun ls hl => ?_)
      refine lv_iconst (v := nI 1) hx hb dL_cut_15 (by decide) ?_
      exact z_iret hx hb hr hP hK hD hS dL_cut_16 hlocks (Or.inr ⟨rfl, Or.inl ⟨hE, rfl⟩⟩)
    · have hpass : ∀ z ∈ ([⟨0, 10, 13, 25⟩] : List ExceptionTableEntry), covers z 5 = false ∨ (z.catchType ≠ 0 ∧ ∃ nm : String, (Cond.classLink RL z.catchType nm).before ([.ref ua, .int x1, .int x2, .ref oa] : List Value).toArray s = true ∧ va_Nc "java/lang/IllegalArgumentException" nm s) := by
        intro z hz
        simp only [List.mem_cons, List.not_mem_nil, or_false] at hz
        subst hz
        · exact Or.inr ⟨by decide, "java/lang/IndexOutOfBoundsException", hts (.classLink RL 25 "java/lang/IndexOutOfBoundsException") (by decide +kernel), hX.2.2.2.2.2 ("java/lang/IllegalArgumentException", "java/lang/IndexOutOfBoundsException") (by decide +kernel)⟩
      refine vx_catch (own := RL) (E := "java/lang/IllegalArgumentException") (name := "java/lang/IllegalArgumentException") hown ([⟨0, 10, 13, 25⟩] : List ExceptionTableEntry) ⟨0, 10, 17, 13⟩ [⟨0, 10, 21, 15⟩] htab hpass rfl (by decide) (hts (.classLink RL 13 "java/lang/IllegalArgumentException") (by decide +kernel)) (va_Nw.use rfl (hX.2.2.1 (.castable "java/lang/IllegalArgumentException" "java/lang/IllegalArgumentException") (by decide +kernel))) hc1 hc2 hc3 ?_
      refine lv_astore (lv' := [(4, .ref q9), (0, .ref ua), (1, .int x1), (2, .int x2), (3, .ref oa)]) hx hb dL_cut_17 hl (by decide) rfl (fun ls hl => ?_)
      refine lv_iconst (v := nI 2) hx hb dL_cut_19 (by decide) ?_
      exact z_iret hx hb hr hP hK hD hS dL_cut_20 hlocks (Or.inr ⟨rfl, Or.inr (Or.inl ⟨hE, rfl⟩)⟩)
    · have hpass : ∀ z ∈ ([⟨0, 10, 13, 25⟩, ⟨0, 10, 17, 13⟩] : List ExceptionTableEntry), covers z 5 = false ∨ (z.catchType ≠ 0 ∧ ∃ nm : String, (Cond.classLink RL z.catchType nm).before ([.ref ua, .int x1, .int x2, .ref oa] : List Value).toArray s = true ∧ va_Nc "java/lang/IllegalStateException" nm s) := by
        intro z hz
        simp only [List.mem_cons, List.not_mem_nil, or_false] at hz
        rcases hz with rfl | rfl
        · exact Or.inr ⟨by decide, "java/lang/IndexOutOfBoundsException", hts (.classLink RL 25 "java/lang/IndexOutOfBoundsException") (by decide +kernel), hX.2.2.2.2.2 ("java/lang/IllegalStateException", "java/lang/IndexOutOfBoundsException") (by decide +kernel)⟩
        · exact Or.inr ⟨by decide, "java/lang/IllegalArgumentException", hts (.classLink RL 13 "java/lang/IllegalArgumentException") (by decide +kernel), hX.2.2.2.2.2 ("java/lang/IllegalStateException", "java/lang/IllegalArgumentException") (by decide +kernel)⟩
      refine vx_catch (own := RL) (E := "java/lang/IllegalStateException") (name := "java/lang/IllegalStateException") hown ([⟨0, 10, 13, 25⟩, ⟨0, 10, 17, 13⟩] : List ExceptionTableEntry) ⟨0, 10, 21, 15⟩ [] htab hpass rfl (by decide) (hts (.classLink RL 15 "java/lang/IllegalStateException") (by decide +kernel)) (va_Nw.use rfl (hX.2.2.1 (.castable "java/lang/IllegalStateException" "java/lang/IllegalStateException") (by decide +kernel))) hc1 hc2 hc3 ?_
      refine lv_astore (lv' := [(4, .ref q9), (0, .ref ua), (1, .int x1), (2, .int x2), (3, .ref oa)]) hx hb dL_cut_21 hl (by decide) rfl (fun ls hl => ?_)
      refine lv_iconst (v := nI 3) hx hb dL_cut_23 (by decide) ?_
      exact z_iret hx hb hr hP hK hD hS dL_cut_24 hlocks (Or.inr ⟨rfl, Or.inr (Or.inr (⟨hE, rfl⟩))⟩)
  · rw [List.append_nil] at hP hD
    have hq0 := hq
    refine lv_i2l hx hb dL_cut_8 rfl ?_
    refine z_last hx hb hK hP hD hS 0 rfl dL_cut_9 (fun H locs hP hD hS => ?_)
    have hP : va_P g.1 vwCl ([(oa, .inl (g.2.2.2, 1, .inr (.inl (vp_updL f 0 r.toInt64))))] ++ w1) H := hP
    have hD : va_D A ([(oa, .inl (g.2.2.2, 1, .inr (.inl (vp_updL f 0 r.toInt64))))] ++ w1) := hD
    refine lv_goto (tgt := 25) hx hb dL_cut_10 (by decide) ?_
    refine lv_iconst (v := nI 0) hx hb dL_cut_25 (by decide) ?_
    exact z_iret hx hb hr hP hK hD hS dL_cut_26 hlocks (Or.inl ⟨rfl, r, w1, hq, rfl⟩)

set_option maxHeartbeats 4000000 in
set_option maxRecDepth 100000 in
theorem w_toCome (l : Launch) (g : zG) (ua ar oa : Nat) (c0 : Int32) (W1 : va_W) (x1 : Int32) (f : Nat → Int64) (post : Int32 → va_W → Prop) (XE : String → Prop) (hM : zXi l yX1_toCome wsX1_toCome ({ frames := 7, cells := 1, slots := 6, locals := 125 } : Room) [.ref ua, .int x1] g ((ua, .inr (1, [.ref ar, .int c0])) :: W1) post XE 1 6) (hXE : ∀ E, XE E → E = "java/lang/IndexOutOfBoundsException") : zWi l yL_toCome wsL_toCome ({ frames := 8, cells := 1, slots := 6, locals := 180 } : Room) [.ref ua, .int x1, .ref oa] g ([(oa, .inl (g.2.2.2, 1, .inr (.inl f)))] ++ (((ua, .inr (1, [.ref ar, .int c0])) :: W1))) (fun q w => (q = nI 0 ∧ ∃ (r : Int32) (w1 : va_W), post r w1 ∧ w = [(oa, .inl (g.2.2.2, 1, .inr (.inl (vp_updL f 0 r.toInt64))))] ++ w1) ∨ (w = [(oa, .inl (g.2.2.2, 1, .inr (.inl f)))] ++ ((ua, .inr (1, [.ref ar, .int c0])) :: W1) ∧ ((XE "java/lang/IndexOutOfBoundsException" ∧ q = nI 1)))) 1 6 := by
  intro sz A hAe
  refine va_MetW (cc := cL_toCome) (maxL := 4) (ret := some .int) (by decide) rfl ?_
  intro p e s m args below meth c s₁ B hml hv
  obtain ⟨rfl, ⟨hsz, hP, hK, hD0⟩, hX⟩ := hv
  have hx := B.exec
  have hb := B.bytes
  have hr := B.returns
  have hts := atoms_spec (ws := wsL_toCome) B.pre
  have hown : s.vm.findClass RL = some m.cls := findClass_of_methodNamed B.named
  have hlocks := B.notSynchronized
  obtain ⟨hD, hA, hS⟩ := z_in hsz hAe hD0
  have hl := lv_entry ([.ref ua, .int x1, .ref oa]) (n := 4) (Nat.le_of_ble_eq_true rfl)
  rw [lg_entry_eq]
  generalize (lg_sl ([.ref ua, .int x1, .ref oa]) ++ List.replicate (4 - (lg_sl ([.ref ua, .int x1, .ref oa])).length) Slot.unset).toArray = ls at hl ⊢
  have hl : lv_has ls 4 [(0, .ref ua), (1, .int x1), (2, .ref oa)] := hl
  have htab : c.exceptionTable.toList = tableOf [(0, 9, 12, 25)] := vx_table (x := yL_toCome) B (hts (.codeWith yL_toCome cL_toCome 4 (some .int) [(0, 9, 12, 25)]) (by decide +kernel))
  refine lv_aload_n hx hb dL_toCome_0 rfl (lv_at hl 2 rfl) ?_
  refine lv_iconst (v := nI 0) hx hb dL_toCome_1 (by decide) ?_
  refine lv_aload_n hx hb dL_toCome_2 rfl (lv_at hl 0 rfl) ?_
  refine lv_iload_n hx hb dL_toCome_3 rfl (lv_at hl 1 rfl) ?_
  have hP : va_P g.1 vwCl ([(oa, .inl (g.2.2.2, 1, .inr (.inl f)))] ++ ((ua, .inr (1, [.ref ar, .int c0])) :: W1) ++ []) s.heap := by rw [List.append_nil]; exact hP
  have hD : va_D A ([(oa, .inl (g.2.2.2, 1, .inr (.inl f)))] ++ ((ua, .inr (1, [.ref ar, .int c0])) :: W1) ++ []) := by rw [List.append_nil]; exact hD
  refine z_axi (wa := [(oa, .inl (g.2.2.2, 1, .inr (.inl f)))]) (wc := ((ua, .inr (1, [.ref ar, .int c0])) :: W1)) (wb := []) (vx_runV (As := [.int x1]) (rest := [.int (nI 0), .ref oa]) ⟨hx, hb, hml, hown, hts⟩ (hM s.heap.size _ rfl) (cwV 1 hts gL_toCome_X1_toCome rfl rfl rfl (by decide +kernel) ⟨Nat.le_of_ble_eq_true rfl, Nat.le_of_ble_eq_true rfl⟩) (zpreXV (wa := [(oa, .inl (g.2.2.2, 1, .inr (.inl f)))]) (wc := ((ua, .inr (1, [.ref ar, .int c0])) :: W1)) (wb := []) (q0 := 0) (ci := 1) (T := TX1) (N := 2) hK hP hD hS hA hX rfl rfl) rfl rfl hl.1 rfl (lv_room (Nat.le_of_ble_eq_true rfl)) dL_toCome_4 ⟨Nat.le_of_ble_eq_true rfl, Nat.le_of_ble_eq_true rfl⟩) hP hD hS hA (fun E ce q9 H locs hE hP hD hS hc1 hc2 hc3 => ?_) (fun r w1 H locs hq hP hD hS => ?_)
  · rw [List.append_nil] at hP hD
    rcases hXE E hE with rfl
    · refine vx_catch (own := RL) (E := "java/lang/IndexOutOfBoundsException") (name := "java/lang/IndexOutOfBoundsException") hown ([] : List ExceptionTableEntry) ⟨0, 9, 12, 25⟩ [] htab (fun z hz => absurd hz List.not_mem_nil) rfl (by decide) (hts (.classLink RL 25 "java/lang/IndexOutOfBoundsException") (by decide +kernel)) (va_Nw.use rfl (hX.2.2.1 (.castable "java/lang/IndexOutOfBoundsException" "java/lang/IndexOutOfBoundsException") (by decide +kernel))) hc1 hc2 hc3 ?_
      refine lv_astore_n (lv' := [(3, .ref q9), (0, .ref ua), (1, .int x1), (2, .ref oa)]) hx hb dL_toCome_12 rfl hl (by decide) rfl (fun ls hl => ?_)
      refine lv_iconst (v := nI 1) hx hb dL_toCome_13 (by decide) ?_
      exact z_iret hx hb hr hP hK hD hS dL_toCome_14 hlocks (Or.inr ⟨rfl, ⟨hE, rfl⟩⟩)
  · rw [List.append_nil] at hP hD
    have hq0 := hq
    refine lv_i2l hx hb dL_toCome_7 rfl ?_
    refine z_last hx hb hK hP hD hS 0 rfl dL_toCome_8 (fun H locs hP hD hS => ?_)
    have hP : va_P g.1 vwCl ([(oa, .inl (g.2.2.2, 1, .inr (.inl (vp_updL f 0 r.toInt64))))] ++ w1) H := hP
    have hD : va_D A ([(oa, .inl (g.2.2.2, 1, .inr (.inl (vp_updL f 0 r.toInt64))))] ++ w1) := hD
    refine lv_goto (tgt := 15) hx hb dL_toCome_9 (by decide) ?_
    refine lv_iconst (v := nI 0) hx hb dL_toCome_15 (by decide) ?_
    exact z_iret hx hb hr hP hK hD hS dL_toCome_16 hlocks (Or.inl ⟨rfl, r, w1, hq, rfl⟩)

set_option maxHeartbeats 4000000 in
set_option maxRecDepth 100000 in
theorem w_payment (l : Launch) (g : zG) (ua ar oa : Nat) (c0 : Int32) (W1 : va_W) (x1 x2 : Int32) (f : Nat → Int64) (post : Int32 → va_W → Prop) (XE : String → Prop) (hM : zXi l yX1_payment wsX1_payment ({ frames := 7, cells := 2, slots := 12, locals := 125 } : Room) [.ref ua, .int x1, .int x2] g ((ua, .inr (1, [.ref ar, .int c0])) :: W1) post XE 2 12) (hXE : ∀ E, XE E → E = "java/lang/IndexOutOfBoundsException") : zWi l yL_payment wsL_payment ({ frames := 8, cells := 2, slots := 12, locals := 180 } : Room) [.ref ua, .int x1, .int x2, .ref oa] g ([(oa, .inl (g.2.2.2, 1, .inr (.inl f)))] ++ (((ua, .inr (1, [.ref ar, .int c0])) :: W1))) (fun q w => (q = nI 0 ∧ ∃ (r : Int32) (w1 : va_W), post r w1 ∧ w = [(oa, .inl (g.2.2.2, 1, .inr (.inl (vp_updL f 0 r.toInt64))))] ++ w1) ∨ (w = [(oa, .inl (g.2.2.2, 1, .inr (.inl f)))] ++ ((ua, .inr (1, [.ref ar, .int c0])) :: W1) ∧ ((XE "java/lang/IndexOutOfBoundsException" ∧ q = nI 1)))) 2 12 := by
  intro sz A hAe
  refine va_MetW (cc := cL_payment) (maxL := 5) (ret := some .int) (by decide) rfl ?_
  intro p e s m args below meth c s₁ B hml hv
  obtain ⟨rfl, ⟨hsz, hP, hK, hD0⟩, hX⟩ := hv
  have hx := B.exec
  have hb := B.bytes
  have hr := B.returns
  have hts := atoms_spec (ws := wsL_payment) B.pre
  have hown : s.vm.findClass RL = some m.cls := findClass_of_methodNamed B.named
  have hlocks := B.notSynchronized
  obtain ⟨hD, hA, hS⟩ := z_in hsz hAe hD0
  have hl := lv_entry ([.ref ua, .int x1, .int x2, .ref oa]) (n := 5) (Nat.le_of_ble_eq_true rfl)
  rw [lg_entry_eq]
  generalize (lg_sl ([.ref ua, .int x1, .int x2, .ref oa]) ++ List.replicate (5 - (lg_sl ([.ref ua, .int x1, .int x2, .ref oa])).length) Slot.unset).toArray = ls at hl ⊢
  have hl : lv_has ls 5 [(0, .ref ua), (1, .int x1), (2, .int x2), (3, .ref oa)] := hl
  have htab : c.exceptionTable.toList = tableOf [(0, 10, 13, 25)] := vx_table (x := yL_payment) B (hts (.codeWith yL_payment cL_payment 5 (some .int) [(0, 10, 13, 25)]) (by decide +kernel))
  refine lv_aload_n hx hb dL_payment_0 rfl (lv_at hl 3 rfl) ?_
  refine lv_iconst (v := nI 0) hx hb dL_payment_1 (by decide) ?_
  refine lv_aload_n hx hb dL_payment_2 rfl (lv_at hl 0 rfl) ?_
  refine lv_iload_n hx hb dL_payment_3 rfl (lv_at hl 1 rfl) ?_
  refine lv_iload_n hx hb dL_payment_4 rfl (lv_at hl 2 rfl) ?_
  have hP : va_P g.1 vwCl ([(oa, .inl (g.2.2.2, 1, .inr (.inl f)))] ++ ((ua, .inr (1, [.ref ar, .int c0])) :: W1) ++ []) s.heap := by rw [List.append_nil]; exact hP
  have hD : va_D A ([(oa, .inl (g.2.2.2, 1, .inr (.inl f)))] ++ ((ua, .inr (1, [.ref ar, .int c0])) :: W1) ++ []) := by rw [List.append_nil]; exact hD
  refine z_axi (wa := [(oa, .inl (g.2.2.2, 1, .inr (.inl f)))]) (wc := ((ua, .inr (1, [.ref ar, .int c0])) :: W1)) (wb := []) (vx_runV (As := [.int x1, .int x2]) (rest := [.int (nI 0), .ref oa]) ⟨hx, hb, hml, hown, hts⟩ (hM s.heap.size _ rfl) (cwV 2 hts gL_payment_X1_payment rfl rfl rfl (by decide +kernel) ⟨Nat.le_of_ble_eq_true rfl, Nat.le_of_ble_eq_true rfl⟩) (zpreXV (wa := [(oa, .inl (g.2.2.2, 1, .inr (.inl f)))]) (wc := ((ua, .inr (1, [.ref ar, .int c0])) :: W1)) (wb := []) (q0 := 0) (ci := 1) (T := TX1) (N := 2) hK hP hD hS hA hX rfl rfl) rfl rfl hl.1 rfl (lv_room (Nat.le_of_ble_eq_true rfl)) dL_payment_5 ⟨Nat.le_of_ble_eq_true rfl, Nat.le_of_ble_eq_true rfl⟩) hP hD hS hA (fun E ce q9 H locs hE hP hD hS hc1 hc2 hc3 => ?_) (fun r w1 H locs hq hP hD hS => ?_)
  · rw [List.append_nil] at hP hD
    rcases hXE E hE with rfl
    · refine vx_catch (own := RL) (E := "java/lang/IndexOutOfBoundsException") (name := "java/lang/IndexOutOfBoundsException") hown ([] : List ExceptionTableEntry) ⟨0, 10, 13, 25⟩ [] htab (fun z hz => absurd hz List.not_mem_nil) rfl (by decide) (hts (.classLink RL 25 "java/lang/IndexOutOfBoundsException") (by decide +kernel)) (va_Nw.use rfl (hX.2.2.1 (.castable "java/lang/IndexOutOfBoundsException" "java/lang/IndexOutOfBoundsException") (by decide +kernel))) hc1 hc2 hc3 ?_
      refine lv_astore (lv' := [(4, .ref q9), (0, .ref ua), (1, .int x1), (2, .int x2), (3, .ref oa)]) hx hb dL_payment_13 hl (by decide) rfl (fun ls hl => ?_)
      refine lv_iconst (v := nI 1) hx hb dL_payment_15 (by decide) ?_
      exact z_iret hx hb hr hP hK hD hS dL_payment_16 hlocks (Or.inr ⟨rfl, ⟨hE, rfl⟩⟩)
  · rw [List.append_nil] at hP hD
    have hq0 := hq
    refine lv_i2l hx hb dL_payment_8 rfl ?_
    refine z_last hx hb hK hP hD hS 0 rfl dL_payment_9 (fun H locs hP hD hS => ?_)
    have hP : va_P g.1 vwCl ([(oa, .inl (g.2.2.2, 1, .inr (.inl (vp_updL f 0 r.toInt64))))] ++ w1) H := hP
    have hD : va_D A ([(oa, .inl (g.2.2.2, 1, .inr (.inl (vp_updL f 0 r.toInt64))))] ++ w1) := hD
    refine lv_goto (tgt := 17) hx hb dL_payment_10 (by decide) ?_
    refine lv_iconst (v := nI 0) hx hb dL_payment_17 (by decide) ?_
    exact z_iret hx hb hr hP hK hD hS dL_payment_18 hlocks (Or.inl ⟨rfl, r, w1, hq, rfl⟩)

set_option maxHeartbeats 4000000 in
set_option maxRecDepth 100000 in
theorem w_debt (l : Launch) (g : zG) (ua ar oa : Nat) (c0 : Int32) (W1 : va_W) (x1 : Int32) (f : Nat → Int64) (post : Int32 → va_W → Prop) (XE : String → Prop) (hM : zXi l yX1_debt wsX1_debt ({ frames := 7, cells := 1, slots := 6, locals := 125 } : Room) [.ref ua, .int x1] g ((ua, .inr (1, [.ref ar, .int c0])) :: W1) post XE 1 6) (hXE : ∀ E, XE E → E = "java/lang/IndexOutOfBoundsException") : zWi l yL_debt wsL_debt ({ frames := 8, cells := 1, slots := 6, locals := 180 } : Room) [.ref ua, .int x1, .ref oa] g ([(oa, .inl (g.2.2.2, 1, .inr (.inl f)))] ++ (((ua, .inr (1, [.ref ar, .int c0])) :: W1))) (fun q w => (q = nI 0 ∧ ∃ (r : Int32) (w1 : va_W), post r w1 ∧ w = [(oa, .inl (g.2.2.2, 1, .inr (.inl (vp_updL f 0 r.toInt64))))] ++ w1) ∨ (w = [(oa, .inl (g.2.2.2, 1, .inr (.inl f)))] ++ ((ua, .inr (1, [.ref ar, .int c0])) :: W1) ∧ ((XE "java/lang/IndexOutOfBoundsException" ∧ q = nI 1)))) 1 6 := by
  intro sz A hAe
  refine va_MetW (cc := cL_debt) (maxL := 4) (ret := some .int) (by decide) rfl ?_
  intro p e s m args below meth c s₁ B hml hv
  obtain ⟨rfl, ⟨hsz, hP, hK, hD0⟩, hX⟩ := hv
  have hx := B.exec
  have hb := B.bytes
  have hr := B.returns
  have hts := atoms_spec (ws := wsL_debt) B.pre
  have hown : s.vm.findClass RL = some m.cls := findClass_of_methodNamed B.named
  have hlocks := B.notSynchronized
  obtain ⟨hD, hA, hS⟩ := z_in hsz hAe hD0
  have hl := lv_entry ([.ref ua, .int x1, .ref oa]) (n := 4) (Nat.le_of_ble_eq_true rfl)
  rw [lg_entry_eq]
  generalize (lg_sl ([.ref ua, .int x1, .ref oa]) ++ List.replicate (4 - (lg_sl ([.ref ua, .int x1, .ref oa])).length) Slot.unset).toArray = ls at hl ⊢
  have hl : lv_has ls 4 [(0, .ref ua), (1, .int x1), (2, .ref oa)] := hl
  have htab : c.exceptionTable.toList = tableOf [(0, 9, 12, 25)] := vx_table (x := yL_debt) B (hts (.codeWith yL_debt cL_debt 4 (some .int) [(0, 9, 12, 25)]) (by decide +kernel))
  refine lv_aload_n hx hb dL_debt_0 rfl (lv_at hl 2 rfl) ?_
  refine lv_iconst (v := nI 0) hx hb dL_debt_1 (by decide) ?_
  refine lv_aload_n hx hb dL_debt_2 rfl (lv_at hl 0 rfl) ?_
  refine lv_iload_n hx hb dL_debt_3 rfl (lv_at hl 1 rfl) ?_
  have hP : va_P g.1 vwCl ([(oa, .inl (g.2.2.2, 1, .inr (.inl f)))] ++ ((ua, .inr (1, [.ref ar, .int c0])) :: W1) ++ []) s.heap := by rw [List.append_nil]; exact hP
  have hD : va_D A ([(oa, .inl (g.2.2.2, 1, .inr (.inl f)))] ++ ((ua, .inr (1, [.ref ar, .int c0])) :: W1) ++ []) := by rw [List.append_nil]; exact hD
  refine z_axi (wa := [(oa, .inl (g.2.2.2, 1, .inr (.inl f)))]) (wc := ((ua, .inr (1, [.ref ar, .int c0])) :: W1)) (wb := []) (vx_runV (As := [.int x1]) (rest := [.int (nI 0), .ref oa]) ⟨hx, hb, hml, hown, hts⟩ (hM s.heap.size _ rfl) (cwV 1 hts gL_debt_X1_debt rfl rfl rfl (by decide +kernel) ⟨Nat.le_of_ble_eq_true rfl, Nat.le_of_ble_eq_true rfl⟩) (zpreXV (wa := [(oa, .inl (g.2.2.2, 1, .inr (.inl f)))]) (wc := ((ua, .inr (1, [.ref ar, .int c0])) :: W1)) (wb := []) (q0 := 0) (ci := 1) (T := TX1) (N := 2) hK hP hD hS hA hX rfl rfl) rfl rfl hl.1 rfl (lv_room (Nat.le_of_ble_eq_true rfl)) dL_debt_4 ⟨Nat.le_of_ble_eq_true rfl, Nat.le_of_ble_eq_true rfl⟩) hP hD hS hA (fun E ce q9 H locs hE hP hD hS hc1 hc2 hc3 => ?_) (fun r w1 H locs hq hP hD hS => ?_)
  · rw [List.append_nil] at hP hD
    rcases hXE E hE with rfl
    · refine vx_catch (own := RL) (E := "java/lang/IndexOutOfBoundsException") (name := "java/lang/IndexOutOfBoundsException") hown ([] : List ExceptionTableEntry) ⟨0, 9, 12, 25⟩ [] htab (fun z hz => absurd hz List.not_mem_nil) rfl (by decide) (hts (.classLink RL 25 "java/lang/IndexOutOfBoundsException") (by decide +kernel)) (va_Nw.use rfl (hX.2.2.1 (.castable "java/lang/IndexOutOfBoundsException" "java/lang/IndexOutOfBoundsException") (by decide +kernel))) hc1 hc2 hc3 ?_
      refine lv_astore_n (lv' := [(3, .ref q9), (0, .ref ua), (1, .int x1), (2, .ref oa)]) hx hb dL_debt_12 rfl hl (by decide) rfl (fun ls hl => ?_)
      refine lv_iconst (v := nI 1) hx hb dL_debt_13 (by decide) ?_
      exact z_iret hx hb hr hP hK hD hS dL_debt_14 hlocks (Or.inr ⟨rfl, ⟨hE, rfl⟩⟩)
  · rw [List.append_nil] at hP hD
    have hq0 := hq
    refine lv_i2l hx hb dL_debt_7 rfl ?_
    refine z_last hx hb hK hP hD hS 0 rfl dL_debt_8 (fun H locs hP hD hS => ?_)
    have hP : va_P g.1 vwCl ([(oa, .inl (g.2.2.2, 1, .inr (.inl (vp_updL f 0 r.toInt64))))] ++ w1) H := hP
    have hD : va_D A ([(oa, .inl (g.2.2.2, 1, .inr (.inl (vp_updL f 0 r.toInt64))))] ++ w1) := hD
    refine lv_goto (tgt := 15) hx hb dL_debt_9 (by decide) ?_
    refine lv_iconst (v := nI 0) hx hb dL_debt_15 (by decide) ?_
    exact z_iret hx hb hr hP hK hD hS dL_debt_16 hlocks (Or.inl ⟨rfl, r, w1, hq, rfl⟩)

set_option maxHeartbeats 4000000 in
set_option maxRecDepth 100000 in
theorem w_debtByWorth (l : Launch) (g : zG) (ua ar oa : Nat) (c0 : Int32) (W1 : va_W) (x1 : Int32) (f : Nat → Int64) (post : Int32 → va_W → Prop) (XE : String → Prop) (hM : zXi l yX1_debtByWorth wsX1_debtByWorth ({ frames := 7, cells := 1, slots := 6, locals := 125 } : Room) [.ref ua, .int x1] g ((ua, .inr (1, [.ref ar, .int c0])) :: W1) post XE 1 6) (hXE : ∀ E, XE E → E = "java/lang/IndexOutOfBoundsException") : zWi l yL_debtByWorth wsL_debtByWorth ({ frames := 8, cells := 1, slots := 6, locals := 180 } : Room) [.ref ua, .int x1, .ref oa] g ([(oa, .inl (g.2.2.2, 1, .inr (.inl f)))] ++ (((ua, .inr (1, [.ref ar, .int c0])) :: W1))) (fun q w => (q = nI 0 ∧ ∃ (r : Int32) (w1 : va_W), post r w1 ∧ w = [(oa, .inl (g.2.2.2, 1, .inr (.inl (vp_updL f 0 r.toInt64))))] ++ w1) ∨ (w = [(oa, .inl (g.2.2.2, 1, .inr (.inl f)))] ++ ((ua, .inr (1, [.ref ar, .int c0])) :: W1) ∧ ((XE "java/lang/IndexOutOfBoundsException" ∧ q = nI 1)))) 1 6 := by
  intro sz A hAe
  refine va_MetW (cc := cL_debtByWorth) (maxL := 4) (ret := some .int) (by decide) rfl ?_
  intro p e s m args below meth c s₁ B hml hv
  obtain ⟨rfl, ⟨hsz, hP, hK, hD0⟩, hX⟩ := hv
  have hx := B.exec
  have hb := B.bytes
  have hr := B.returns
  have hts := atoms_spec (ws := wsL_debtByWorth) B.pre
  have hown : s.vm.findClass RL = some m.cls := findClass_of_methodNamed B.named
  have hlocks := B.notSynchronized
  obtain ⟨hD, hA, hS⟩ := z_in hsz hAe hD0
  have hl := lv_entry ([.ref ua, .int x1, .ref oa]) (n := 4) (Nat.le_of_ble_eq_true rfl)
  rw [lg_entry_eq]
  generalize (lg_sl ([.ref ua, .int x1, .ref oa]) ++ List.replicate (4 - (lg_sl ([.ref ua, .int x1, .ref oa])).length) Slot.unset).toArray = ls at hl ⊢
  have hl : lv_has ls 4 [(0, .ref ua), (1, .int x1), (2, .ref oa)] := hl
  have htab : c.exceptionTable.toList = tableOf [(0, 9, 12, 25)] := vx_table (x := yL_debtByWorth) B (hts (.codeWith yL_debtByWorth cL_debtByWorth 4 (some .int) [(0, 9, 12, 25)]) (by decide +kernel))
  refine lv_aload_n hx hb dL_debtByWorth_0 rfl (lv_at hl 2 rfl) ?_
  refine lv_iconst (v := nI 0) hx hb dL_debtByWorth_1 (by decide) ?_
  refine lv_aload_n hx hb dL_debtByWorth_2 rfl (lv_at hl 0 rfl) ?_
  refine lv_iload_n hx hb dL_debtByWorth_3 rfl (lv_at hl 1 rfl) ?_
  have hP : va_P g.1 vwCl ([(oa, .inl (g.2.2.2, 1, .inr (.inl f)))] ++ ((ua, .inr (1, [.ref ar, .int c0])) :: W1) ++ []) s.heap := by rw [List.append_nil]; exact hP
  have hD : va_D A ([(oa, .inl (g.2.2.2, 1, .inr (.inl f)))] ++ ((ua, .inr (1, [.ref ar, .int c0])) :: W1) ++ []) := by rw [List.append_nil]; exact hD
  refine z_axi (wa := [(oa, .inl (g.2.2.2, 1, .inr (.inl f)))]) (wc := ((ua, .inr (1, [.ref ar, .int c0])) :: W1)) (wb := []) (vx_runV (As := [.int x1]) (rest := [.int (nI 0), .ref oa]) ⟨hx, hb, hml, hown, hts⟩ (hM s.heap.size _ rfl) (cwV 1 hts gL_debtByWorth_X1_debtByWorth rfl rfl rfl (by decide +kernel) ⟨Nat.le_of_ble_eq_true rfl, Nat.le_of_ble_eq_true rfl⟩) (zpreXV (wa := [(oa, .inl (g.2.2.2, 1, .inr (.inl f)))]) (wc := ((ua, .inr (1, [.ref ar, .int c0])) :: W1)) (wb := []) (q0 := 0) (ci := 1) (T := TX1) (N := 2) hK hP hD hS hA hX rfl rfl) rfl rfl hl.1 rfl (lv_room (Nat.le_of_ble_eq_true rfl)) dL_debtByWorth_4 ⟨Nat.le_of_ble_eq_true rfl, Nat.le_of_ble_eq_true rfl⟩) hP hD hS hA (fun E ce q9 H locs hE hP hD hS hc1 hc2 hc3 => ?_) (fun r w1 H locs hq hP hD hS => ?_)
  · rw [List.append_nil] at hP hD
    rcases hXE E hE with rfl
    · refine vx_catch (own := RL) (E := "java/lang/IndexOutOfBoundsException") (name := "java/lang/IndexOutOfBoundsException") hown ([] : List ExceptionTableEntry) ⟨0, 9, 12, 25⟩ [] htab (fun z hz => absurd hz List.not_mem_nil) rfl (by decide) (hts (.classLink RL 25 "java/lang/IndexOutOfBoundsException") (by decide +kernel)) (va_Nw.use rfl (hX.2.2.1 (.castable "java/lang/IndexOutOfBoundsException" "java/lang/IndexOutOfBoundsException") (by decide +kernel))) hc1 hc2 hc3 ?_
      refine lv_astore_n (lv' := [(3, .ref q9), (0, .ref ua), (1, .int x1), (2, .ref oa)]) hx hb dL_debtByWorth_12 rfl hl (by decide) rfl (fun ls hl => ?_)
      refine lv_iconst (v := nI 1) hx hb dL_debtByWorth_13 (by decide) ?_
      exact z_iret hx hb hr hP hK hD hS dL_debtByWorth_14 hlocks (Or.inr ⟨rfl, ⟨hE, rfl⟩⟩)
  · rw [List.append_nil] at hP hD
    have hq0 := hq
    refine lv_i2l hx hb dL_debtByWorth_7 rfl ?_
    refine z_last hx hb hK hP hD hS 0 rfl dL_debtByWorth_8 (fun H locs hP hD hS => ?_)
    have hP : va_P g.1 vwCl ([(oa, .inl (g.2.2.2, 1, .inr (.inl (vp_updL f 0 r.toInt64))))] ++ w1) H := hP
    have hD : va_D A ([(oa, .inl (g.2.2.2, 1, .inr (.inl (vp_updL f 0 r.toInt64))))] ++ w1) := hD
    refine lv_goto (tgt := 15) hx hb dL_debtByWorth_9 (by decide) ?_
    refine lv_iconst (v := nI 0) hx hb dL_debtByWorth_15 (by decide) ?_
    exact z_iret hx hb hr hP hK hD hS dL_debtByWorth_16 hlocks (Or.inl ⟨rfl, r, w1, hq, rfl⟩)

set_option maxHeartbeats 4000000 in
set_option maxRecDepth 100000 in
theorem w_right (l : Launch) (g : zG) (ua ar oa : Nat) (c0 : Int32) (W1 : va_W) (x1 : Int32) (f : Nat → Int64) (post : Int32 → va_W → Prop) (XE : String → Prop) (hM : zXi l yX1_right wsX1_right ({ frames := 7, cells := 1, slots := 6, locals := 125 } : Room) [.ref ua, .int x1] g ((ua, .inr (1, [.ref ar, .int c0])) :: W1) post XE 1 6) (hXE : ∀ E, XE E → E = "java/lang/IndexOutOfBoundsException") : zWi l yL_right wsL_right ({ frames := 8, cells := 1, slots := 6, locals := 180 } : Room) [.ref ua, .int x1, .ref oa] g ([(oa, .inl (g.2.2.2, 1, .inr (.inl f)))] ++ (((ua, .inr (1, [.ref ar, .int c0])) :: W1))) (fun q w => (q = nI 0 ∧ ∃ (r : Int32) (w1 : va_W), post r w1 ∧ w = [(oa, .inl (g.2.2.2, 1, .inr (.inl (vp_updL f 0 r.toInt64))))] ++ w1) ∨ (w = [(oa, .inl (g.2.2.2, 1, .inr (.inl f)))] ++ ((ua, .inr (1, [.ref ar, .int c0])) :: W1) ∧ ((XE "java/lang/IndexOutOfBoundsException" ∧ q = nI 1)))) 1 6 := by
  intro sz A hAe
  refine va_MetW (cc := cL_right) (maxL := 4) (ret := some .int) (by decide) rfl ?_
  intro p e s m args below meth c s₁ B hml hv
  obtain ⟨rfl, ⟨hsz, hP, hK, hD0⟩, hX⟩ := hv
  have hx := B.exec
  have hb := B.bytes
  have hr := B.returns
  have hts := atoms_spec (ws := wsL_right) B.pre
  have hown : s.vm.findClass RL = some m.cls := findClass_of_methodNamed B.named
  have hlocks := B.notSynchronized
  obtain ⟨hD, hA, hS⟩ := z_in hsz hAe hD0
  have hl := lv_entry ([.ref ua, .int x1, .ref oa]) (n := 4) (Nat.le_of_ble_eq_true rfl)
  rw [lg_entry_eq]
  generalize (lg_sl ([.ref ua, .int x1, .ref oa]) ++ List.replicate (4 - (lg_sl ([.ref ua, .int x1, .ref oa])).length) Slot.unset).toArray = ls at hl ⊢
  have hl : lv_has ls 4 [(0, .ref ua), (1, .int x1), (2, .ref oa)] := hl
  have htab : c.exceptionTable.toList = tableOf [(0, 9, 12, 25)] := vx_table (x := yL_right) B (hts (.codeWith yL_right cL_right 4 (some .int) [(0, 9, 12, 25)]) (by decide +kernel))
  refine lv_aload_n hx hb dL_right_0 rfl (lv_at hl 2 rfl) ?_
  refine lv_iconst (v := nI 0) hx hb dL_right_1 (by decide) ?_
  refine lv_aload_n hx hb dL_right_2 rfl (lv_at hl 0 rfl) ?_
  refine lv_iload_n hx hb dL_right_3 rfl (lv_at hl 1 rfl) ?_
  have hP : va_P g.1 vwCl ([(oa, .inl (g.2.2.2, 1, .inr (.inl f)))] ++ ((ua, .inr (1, [.ref ar, .int c0])) :: W1) ++ []) s.heap := by rw [List.append_nil]; exact hP
  have hD : va_D A ([(oa, .inl (g.2.2.2, 1, .inr (.inl f)))] ++ ((ua, .inr (1, [.ref ar, .int c0])) :: W1) ++ []) := by rw [List.append_nil]; exact hD
  refine z_axi (wa := [(oa, .inl (g.2.2.2, 1, .inr (.inl f)))]) (wc := ((ua, .inr (1, [.ref ar, .int c0])) :: W1)) (wb := []) (vx_runV (As := [.int x1]) (rest := [.int (nI 0), .ref oa]) ⟨hx, hb, hml, hown, hts⟩ (hM s.heap.size _ rfl) (cwV 1 hts gL_right_X1_right rfl rfl rfl (by decide +kernel) ⟨Nat.le_of_ble_eq_true rfl, Nat.le_of_ble_eq_true rfl⟩) (zpreXV (wa := [(oa, .inl (g.2.2.2, 1, .inr (.inl f)))]) (wc := ((ua, .inr (1, [.ref ar, .int c0])) :: W1)) (wb := []) (q0 := 0) (ci := 1) (T := TX1) (N := 2) hK hP hD hS hA hX rfl rfl) rfl rfl hl.1 rfl (lv_room (Nat.le_of_ble_eq_true rfl)) dL_right_4 ⟨Nat.le_of_ble_eq_true rfl, Nat.le_of_ble_eq_true rfl⟩) hP hD hS hA (fun E ce q9 H locs hE hP hD hS hc1 hc2 hc3 => ?_) (fun r w1 H locs hq hP hD hS => ?_)
  · rw [List.append_nil] at hP hD
    rcases hXE E hE with rfl
    · refine vx_catch (own := RL) (E := "java/lang/IndexOutOfBoundsException") (name := "java/lang/IndexOutOfBoundsException") hown ([] : List ExceptionTableEntry) ⟨0, 9, 12, 25⟩ [] htab (fun z hz => absurd hz List.not_mem_nil) rfl (by decide) (hts (.classLink RL 25 "java/lang/IndexOutOfBoundsException") (by decide +kernel)) (va_Nw.use rfl (hX.2.2.1 (.castable "java/lang/IndexOutOfBoundsException" "java/lang/IndexOutOfBoundsException") (by decide +kernel))) hc1 hc2 hc3 ?_
      refine lv_astore_n (lv' := [(3, .ref q9), (0, .ref ua), (1, .int x1), (2, .ref oa)]) hx hb dL_right_12 rfl hl (by decide) rfl (fun ls hl => ?_)
      refine lv_iconst (v := nI 1) hx hb dL_right_13 (by decide) ?_
      exact z_iret hx hb hr hP hK hD hS dL_right_14 hlocks (Or.inr ⟨rfl, ⟨hE, rfl⟩⟩)
  · rw [List.append_nil] at hP hD
    have hq0 := hq
    refine lv_i2l hx hb dL_right_7 rfl ?_
    refine z_last hx hb hK hP hD hS 0 rfl dL_right_8 (fun H locs hP hD hS => ?_)
    have hP : va_P g.1 vwCl ([(oa, .inl (g.2.2.2, 1, .inr (.inl (vp_updL f 0 r.toInt64))))] ++ w1) H := hP
    have hD : va_D A ([(oa, .inl (g.2.2.2, 1, .inr (.inl (vp_updL f 0 r.toInt64))))] ++ w1) := hD
    refine lv_goto (tgt := 15) hx hb dL_right_9 (by decide) ?_
    refine lv_iconst (v := nI 0) hx hb dL_right_15 (by decide) ?_
    exact z_iret hx hb hr hP hK hD hS dL_right_16 hlocks (Or.inl ⟨rfl, r, w1, hq, rfl⟩)

set_option maxHeartbeats 4000000 in
set_option maxRecDepth 100000 in
theorem w_interest (l : Launch) (g : zG) (ua ar oa : Nat) (c0 : Int32) (W1 : va_W) (x1 : Int32) (f : Nat → Int64) (post : Int32 → va_W → Prop) (XE : String → Prop) (hM : zXi l yX1_interest wsX1_interest ({ frames := 7, cells := 1, slots := 6, locals := 125 } : Room) [.ref ua, .int x1] g ((ua, .inr (1, [.ref ar, .int c0])) :: W1) post XE 1 6) (hXE : ∀ E, XE E → E = "java/lang/IndexOutOfBoundsException") : zWi l yL_interest wsL_interest ({ frames := 8, cells := 1, slots := 6, locals := 180 } : Room) [.ref ua, .int x1, .ref oa] g ([(oa, .inl (g.2.2.2, 1, .inr (.inl f)))] ++ (((ua, .inr (1, [.ref ar, .int c0])) :: W1))) (fun q w => (q = nI 0 ∧ ∃ (r : Int32) (w1 : va_W), post r w1 ∧ w = [(oa, .inl (g.2.2.2, 1, .inr (.inl (vp_updL f 0 r.toInt64))))] ++ w1) ∨ (w = [(oa, .inl (g.2.2.2, 1, .inr (.inl f)))] ++ ((ua, .inr (1, [.ref ar, .int c0])) :: W1) ∧ ((XE "java/lang/IndexOutOfBoundsException" ∧ q = nI 1)))) 1 6 := by
  intro sz A hAe
  refine va_MetW (cc := cL_interest) (maxL := 4) (ret := some .int) (by decide) rfl ?_
  intro p e s m args below meth c s₁ B hml hv
  obtain ⟨rfl, ⟨hsz, hP, hK, hD0⟩, hX⟩ := hv
  have hx := B.exec
  have hb := B.bytes
  have hr := B.returns
  have hts := atoms_spec (ws := wsL_interest) B.pre
  have hown : s.vm.findClass RL = some m.cls := findClass_of_methodNamed B.named
  have hlocks := B.notSynchronized
  obtain ⟨hD, hA, hS⟩ := z_in hsz hAe hD0
  have hl := lv_entry ([.ref ua, .int x1, .ref oa]) (n := 4) (Nat.le_of_ble_eq_true rfl)
  rw [lg_entry_eq]
  generalize (lg_sl ([.ref ua, .int x1, .ref oa]) ++ List.replicate (4 - (lg_sl ([.ref ua, .int x1, .ref oa])).length) Slot.unset).toArray = ls at hl ⊢
  have hl : lv_has ls 4 [(0, .ref ua), (1, .int x1), (2, .ref oa)] := hl
  have htab : c.exceptionTable.toList = tableOf [(0, 9, 12, 25)] := vx_table (x := yL_interest) B (hts (.codeWith yL_interest cL_interest 4 (some .int) [(0, 9, 12, 25)]) (by decide +kernel))
  refine lv_aload_n hx hb dL_interest_0 rfl (lv_at hl 2 rfl) ?_
  refine lv_iconst (v := nI 0) hx hb dL_interest_1 (by decide) ?_
  refine lv_aload_n hx hb dL_interest_2 rfl (lv_at hl 0 rfl) ?_
  refine lv_iload_n hx hb dL_interest_3 rfl (lv_at hl 1 rfl) ?_
  have hP : va_P g.1 vwCl ([(oa, .inl (g.2.2.2, 1, .inr (.inl f)))] ++ ((ua, .inr (1, [.ref ar, .int c0])) :: W1) ++ []) s.heap := by rw [List.append_nil]; exact hP
  have hD : va_D A ([(oa, .inl (g.2.2.2, 1, .inr (.inl f)))] ++ ((ua, .inr (1, [.ref ar, .int c0])) :: W1) ++ []) := by rw [List.append_nil]; exact hD
  refine z_axi (wa := [(oa, .inl (g.2.2.2, 1, .inr (.inl f)))]) (wc := ((ua, .inr (1, [.ref ar, .int c0])) :: W1)) (wb := []) (vx_runV (As := [.int x1]) (rest := [.int (nI 0), .ref oa]) ⟨hx, hb, hml, hown, hts⟩ (hM s.heap.size _ rfl) (cwV 1 hts gL_interest_X1_interest rfl rfl rfl (by decide +kernel) ⟨Nat.le_of_ble_eq_true rfl, Nat.le_of_ble_eq_true rfl⟩) (zpreXV (wa := [(oa, .inl (g.2.2.2, 1, .inr (.inl f)))]) (wc := ((ua, .inr (1, [.ref ar, .int c0])) :: W1)) (wb := []) (q0 := 0) (ci := 1) (T := TX1) (N := 2) hK hP hD hS hA hX rfl rfl) rfl rfl hl.1 rfl (lv_room (Nat.le_of_ble_eq_true rfl)) dL_interest_4 ⟨Nat.le_of_ble_eq_true rfl, Nat.le_of_ble_eq_true rfl⟩) hP hD hS hA (fun E ce q9 H locs hE hP hD hS hc1 hc2 hc3 => ?_) (fun r w1 H locs hq hP hD hS => ?_)
  · rw [List.append_nil] at hP hD
    rcases hXE E hE with rfl
    · refine vx_catch (own := RL) (E := "java/lang/IndexOutOfBoundsException") (name := "java/lang/IndexOutOfBoundsException") hown ([] : List ExceptionTableEntry) ⟨0, 9, 12, 25⟩ [] htab (fun z hz => absurd hz List.not_mem_nil) rfl (by decide) (hts (.classLink RL 25 "java/lang/IndexOutOfBoundsException") (by decide +kernel)) (va_Nw.use rfl (hX.2.2.1 (.castable "java/lang/IndexOutOfBoundsException" "java/lang/IndexOutOfBoundsException") (by decide +kernel))) hc1 hc2 hc3 ?_
      refine lv_astore_n (lv' := [(3, .ref q9), (0, .ref ua), (1, .int x1), (2, .ref oa)]) hx hb dL_interest_12 rfl hl (by decide) rfl (fun ls hl => ?_)
      refine lv_iconst (v := nI 1) hx hb dL_interest_13 (by decide) ?_
      exact z_iret hx hb hr hP hK hD hS dL_interest_14 hlocks (Or.inr ⟨rfl, ⟨hE, rfl⟩⟩)
  · rw [List.append_nil] at hP hD
    have hq0 := hq
    refine lv_i2l hx hb dL_interest_7 rfl ?_
    refine z_last hx hb hK hP hD hS 0 rfl dL_interest_8 (fun H locs hP hD hS => ?_)
    have hP : va_P g.1 vwCl ([(oa, .inl (g.2.2.2, 1, .inr (.inl (vp_updL f 0 r.toInt64))))] ++ w1) H := hP
    have hD : va_D A ([(oa, .inl (g.2.2.2, 1, .inr (.inl (vp_updL f 0 r.toInt64))))] ++ w1) := hD
    refine lv_goto (tgt := 15) hx hb dL_interest_9 (by decide) ?_
    refine lv_iconst (v := nI 0) hx hb dL_interest_15 (by decide) ?_
    exact z_iret hx hb hr hP hK hD hS dL_interest_16 hlocks (Or.inl ⟨rfl, r, w1, hq, rfl⟩)

set_option maxHeartbeats 4000000 in
set_option maxRecDepth 100000 in
theorem w_written (l : Launch) (g : zG) (ua ar oa : Nat) (c0 : Int32) (W1 : va_W) (x1 : Int32) (f : Nat → Int64) (post : Int32 → va_W → Prop) (XE : String → Prop) (hM : zXi l yX1_written wsX1_written ({ frames := 7, cells := 1, slots := 6, locals := 125 } : Room) [.ref ua, .int x1] g ((ua, .inr (1, [.ref ar, .int c0])) :: W1) post XE 1 6) (hXE : ∀ E, XE E → E = "java/lang/IndexOutOfBoundsException") : zWi l yL_written wsL_written ({ frames := 8, cells := 1, slots := 6, locals := 180 } : Room) [.ref ua, .int x1, .ref oa] g ([(oa, .inl (g.2.2.2, 1, .inr (.inl f)))] ++ (((ua, .inr (1, [.ref ar, .int c0])) :: W1))) (fun q w => (q = nI 0 ∧ ∃ (r : Int32) (w1 : va_W), post r w1 ∧ w = [(oa, .inl (g.2.2.2, 1, .inr (.inl (vp_updL f 0 r.toInt64))))] ++ w1) ∨ (w = [(oa, .inl (g.2.2.2, 1, .inr (.inl f)))] ++ ((ua, .inr (1, [.ref ar, .int c0])) :: W1) ∧ ((XE "java/lang/IndexOutOfBoundsException" ∧ q = nI 1)))) 1 6 := by
  intro sz A hAe
  refine va_MetW (cc := cL_written) (maxL := 4) (ret := some .int) (by decide) rfl ?_
  intro p e s m args below meth c s₁ B hml hv
  obtain ⟨rfl, ⟨hsz, hP, hK, hD0⟩, hX⟩ := hv
  have hx := B.exec
  have hb := B.bytes
  have hr := B.returns
  have hts := atoms_spec (ws := wsL_written) B.pre
  have hown : s.vm.findClass RL = some m.cls := findClass_of_methodNamed B.named
  have hlocks := B.notSynchronized
  obtain ⟨hD, hA, hS⟩ := z_in hsz hAe hD0
  have hl := lv_entry ([.ref ua, .int x1, .ref oa]) (n := 4) (Nat.le_of_ble_eq_true rfl)
  rw [lg_entry_eq]
  generalize (lg_sl ([.ref ua, .int x1, .ref oa]) ++ List.replicate (4 - (lg_sl ([.ref ua, .int x1, .ref oa])).length) Slot.unset).toArray = ls at hl ⊢
  have hl : lv_has ls 4 [(0, .ref ua), (1, .int x1), (2, .ref oa)] := hl
  have htab : c.exceptionTable.toList = tableOf [(0, 9, 12, 25)] := vx_table (x := yL_written) B (hts (.codeWith yL_written cL_written 4 (some .int) [(0, 9, 12, 25)]) (by decide +kernel))
  refine lv_aload_n hx hb dL_written_0 rfl (lv_at hl 2 rfl) ?_
  refine lv_iconst (v := nI 0) hx hb dL_written_1 (by decide) ?_
  refine lv_aload_n hx hb dL_written_2 rfl (lv_at hl 0 rfl) ?_
  refine lv_iload_n hx hb dL_written_3 rfl (lv_at hl 1 rfl) ?_
  have hP : va_P g.1 vwCl ([(oa, .inl (g.2.2.2, 1, .inr (.inl f)))] ++ ((ua, .inr (1, [.ref ar, .int c0])) :: W1) ++ []) s.heap := by rw [List.append_nil]; exact hP
  have hD : va_D A ([(oa, .inl (g.2.2.2, 1, .inr (.inl f)))] ++ ((ua, .inr (1, [.ref ar, .int c0])) :: W1) ++ []) := by rw [List.append_nil]; exact hD
  refine z_axi (wa := [(oa, .inl (g.2.2.2, 1, .inr (.inl f)))]) (wc := ((ua, .inr (1, [.ref ar, .int c0])) :: W1)) (wb := []) (vx_runV (As := [.int x1]) (rest := [.int (nI 0), .ref oa]) ⟨hx, hb, hml, hown, hts⟩ (hM s.heap.size _ rfl) (cwV 1 hts gL_written_X1_written rfl rfl rfl (by decide +kernel) ⟨Nat.le_of_ble_eq_true rfl, Nat.le_of_ble_eq_true rfl⟩) (zpreXV (wa := [(oa, .inl (g.2.2.2, 1, .inr (.inl f)))]) (wc := ((ua, .inr (1, [.ref ar, .int c0])) :: W1)) (wb := []) (q0 := 0) (ci := 1) (T := TX1) (N := 2) hK hP hD hS hA hX rfl rfl) rfl rfl hl.1 rfl (lv_room (Nat.le_of_ble_eq_true rfl)) dL_written_4 ⟨Nat.le_of_ble_eq_true rfl, Nat.le_of_ble_eq_true rfl⟩) hP hD hS hA (fun E ce q9 H locs hE hP hD hS hc1 hc2 hc3 => ?_) (fun r w1 H locs hq hP hD hS => ?_)
  · rw [List.append_nil] at hP hD
    rcases hXE E hE with rfl
    · refine vx_catch (own := RL) (E := "java/lang/IndexOutOfBoundsException") (name := "java/lang/IndexOutOfBoundsException") hown ([] : List ExceptionTableEntry) ⟨0, 9, 12, 25⟩ [] htab (fun z hz => absurd hz List.not_mem_nil) rfl (by decide) (hts (.classLink RL 25 "java/lang/IndexOutOfBoundsException") (by decide +kernel)) (va_Nw.use rfl (hX.2.2.1 (.castable "java/lang/IndexOutOfBoundsException" "java/lang/IndexOutOfBoundsException") (by decide +kernel))) hc1 hc2 hc3 ?_
      refine lv_astore_n (lv' := [(3, .ref q9), (0, .ref ua), (1, .int x1), (2, .ref oa)]) hx hb dL_written_12 rfl hl (by decide) rfl (fun ls hl => ?_)
      refine lv_iconst (v := nI 1) hx hb dL_written_13 (by decide) ?_
      exact z_iret hx hb hr hP hK hD hS dL_written_14 hlocks (Or.inr ⟨rfl, ⟨hE, rfl⟩⟩)
  · rw [List.append_nil] at hP hD
    have hq0 := hq
    refine lv_i2l hx hb dL_written_7 rfl ?_
    refine z_last hx hb hK hP hD hS 0 rfl dL_written_8 (fun H locs hP hD hS => ?_)
    have hP : va_P g.1 vwCl ([(oa, .inl (g.2.2.2, 1, .inr (.inl (vp_updL f 0 r.toInt64))))] ++ w1) H := hP
    have hD : va_D A ([(oa, .inl (g.2.2.2, 1, .inr (.inl (vp_updL f 0 r.toInt64))))] ++ w1) := hD
    refine lv_goto (tgt := 15) hx hb dL_written_9 (by decide) ?_
    refine lv_iconst (v := nI 0) hx hb dL_written_15 (by decide) ?_
    exact z_iret hx hb hr hP hK hD hS dL_written_16 hlocks (Or.inl ⟨rfl, r, w1, hq, rfl⟩)

set_option maxHeartbeats 4000000 in
set_option maxRecDepth 100000 in
theorem w_paid (l : Launch) (g : zG) (ua ar oa : Nat) (c0 : Int32) (W1 : va_W) (x1 : Int32) (f : Nat → Int64) (post : Int32 → va_W → Prop) (XE : String → Prop) (hM : zXi l yX1_paid wsX1_paid ({ frames := 7, cells := 1, slots := 6, locals := 125 } : Room) [.ref ua, .int x1] g ((ua, .inr (1, [.ref ar, .int c0])) :: W1) post XE 1 6) (hXE : ∀ E, XE E → E = "java/lang/IndexOutOfBoundsException") : zWi l yL_paid wsL_paid ({ frames := 8, cells := 1, slots := 6, locals := 180 } : Room) [.ref ua, .int x1, .ref oa] g ([(oa, .inl (g.2.2.2, 1, .inr (.inl f)))] ++ (((ua, .inr (1, [.ref ar, .int c0])) :: W1))) (fun q w => (q = nI 0 ∧ ∃ (r : Int32) (w1 : va_W), post r w1 ∧ w = [(oa, .inl (g.2.2.2, 1, .inr (.inl (vp_updL f 0 r.toInt64))))] ++ w1) ∨ (w = [(oa, .inl (g.2.2.2, 1, .inr (.inl f)))] ++ ((ua, .inr (1, [.ref ar, .int c0])) :: W1) ∧ ((XE "java/lang/IndexOutOfBoundsException" ∧ q = nI 1)))) 1 6 := by
  intro sz A hAe
  refine va_MetW (cc := cL_paid) (maxL := 4) (ret := some .int) (by decide) rfl ?_
  intro p e s m args below meth c s₁ B hml hv
  obtain ⟨rfl, ⟨hsz, hP, hK, hD0⟩, hX⟩ := hv
  have hx := B.exec
  have hb := B.bytes
  have hr := B.returns
  have hts := atoms_spec (ws := wsL_paid) B.pre
  have hown : s.vm.findClass RL = some m.cls := findClass_of_methodNamed B.named
  have hlocks := B.notSynchronized
  obtain ⟨hD, hA, hS⟩ := z_in hsz hAe hD0
  have hl := lv_entry ([.ref ua, .int x1, .ref oa]) (n := 4) (Nat.le_of_ble_eq_true rfl)
  rw [lg_entry_eq]
  generalize (lg_sl ([.ref ua, .int x1, .ref oa]) ++ List.replicate (4 - (lg_sl ([.ref ua, .int x1, .ref oa])).length) Slot.unset).toArray = ls at hl ⊢
  have hl : lv_has ls 4 [(0, .ref ua), (1, .int x1), (2, .ref oa)] := hl
  have htab : c.exceptionTable.toList = tableOf [(0, 9, 12, 25)] := vx_table (x := yL_paid) B (hts (.codeWith yL_paid cL_paid 4 (some .int) [(0, 9, 12, 25)]) (by decide +kernel))
  refine lv_aload_n hx hb dL_paid_0 rfl (lv_at hl 2 rfl) ?_
  refine lv_iconst (v := nI 0) hx hb dL_paid_1 (by decide) ?_
  refine lv_aload_n hx hb dL_paid_2 rfl (lv_at hl 0 rfl) ?_
  refine lv_iload_n hx hb dL_paid_3 rfl (lv_at hl 1 rfl) ?_
  have hP : va_P g.1 vwCl ([(oa, .inl (g.2.2.2, 1, .inr (.inl f)))] ++ ((ua, .inr (1, [.ref ar, .int c0])) :: W1) ++ []) s.heap := by rw [List.append_nil]; exact hP
  have hD : va_D A ([(oa, .inl (g.2.2.2, 1, .inr (.inl f)))] ++ ((ua, .inr (1, [.ref ar, .int c0])) :: W1) ++ []) := by rw [List.append_nil]; exact hD
  refine z_axi (wa := [(oa, .inl (g.2.2.2, 1, .inr (.inl f)))]) (wc := ((ua, .inr (1, [.ref ar, .int c0])) :: W1)) (wb := []) (vx_runV (As := [.int x1]) (rest := [.int (nI 0), .ref oa]) ⟨hx, hb, hml, hown, hts⟩ (hM s.heap.size _ rfl) (cwV 1 hts gL_paid_X1_paid rfl rfl rfl (by decide +kernel) ⟨Nat.le_of_ble_eq_true rfl, Nat.le_of_ble_eq_true rfl⟩) (zpreXV (wa := [(oa, .inl (g.2.2.2, 1, .inr (.inl f)))]) (wc := ((ua, .inr (1, [.ref ar, .int c0])) :: W1)) (wb := []) (q0 := 0) (ci := 1) (T := TX1) (N := 2) hK hP hD hS hA hX rfl rfl) rfl rfl hl.1 rfl (lv_room (Nat.le_of_ble_eq_true rfl)) dL_paid_4 ⟨Nat.le_of_ble_eq_true rfl, Nat.le_of_ble_eq_true rfl⟩) hP hD hS hA (fun E ce q9 H locs hE hP hD hS hc1 hc2 hc3 => ?_) (fun r w1 H locs hq hP hD hS => ?_)
  · rw [List.append_nil] at hP hD
    rcases hXE E hE with rfl
    · refine vx_catch (own := RL) (E := "java/lang/IndexOutOfBoundsException") (name := "java/lang/IndexOutOfBoundsException") hown ([] : List ExceptionTableEntry) ⟨0, 9, 12, 25⟩ [] htab (fun z hz => absurd hz List.not_mem_nil) rfl (by decide) (hts (.classLink RL 25 "java/lang/IndexOutOfBoundsException") (by decide +kernel)) (va_Nw.use rfl (hX.2.2.1 (.castable "java/lang/IndexOutOfBoundsException" "java/lang/IndexOutOfBoundsException") (by decide +kernel))) hc1 hc2 hc3 ?_
      refine lv_astore_n (lv' := [(3, .ref q9), (0, .ref ua), (1, .int x1), (2, .ref oa)]) hx hb dL_paid_12 rfl hl (by decide) rfl (fun ls hl => ?_)
      refine lv_iconst (v := nI 1) hx hb dL_paid_13 (by decide) ?_
      exact z_iret hx hb hr hP hK hD hS dL_paid_14 hlocks (Or.inr ⟨rfl, ⟨hE, rfl⟩⟩)
  · rw [List.append_nil] at hP hD
    have hq0 := hq
    refine lv_i2l hx hb dL_paid_7 rfl ?_
    refine z_last hx hb hK hP hD hS 0 rfl dL_paid_8 (fun H locs hP hD hS => ?_)
    have hP : va_P g.1 vwCl ([(oa, .inl (g.2.2.2, 1, .inr (.inl (vp_updL f 0 r.toInt64))))] ++ w1) H := hP
    have hD : va_D A ([(oa, .inl (g.2.2.2, 1, .inr (.inl (vp_updL f 0 r.toInt64))))] ++ w1) := hD
    refine lv_goto (tgt := 15) hx hb dL_paid_9 (by decide) ?_
    refine lv_iconst (v := nI 0) hx hb dL_paid_15 (by decide) ?_
    exact z_iret hx hb hr hP hK hD hS dL_paid_16 hlocks (Or.inl ⟨rfl, r, w1, hq, rfl⟩)

set_option maxHeartbeats 4000000 in
set_option maxRecDepth 100000 in
theorem w_gains (l : Launch) (g : zG) (ua ar oa : Nat) (c0 : Int32) (W1 : va_W) (x1 : Int32) (f : Nat → Int64) (post : Int32 → va_W → Prop) (XE : String → Prop) (hM : zXi l yX1_gains wsX1_gains ({ frames := 7, cells := 1, slots := 6, locals := 125 } : Room) [.ref ua, .int x1] g ((ua, .inr (1, [.ref ar, .int c0])) :: W1) post XE 1 6) (hXE : ∀ E, XE E → E = "java/lang/IndexOutOfBoundsException") : zWi l yL_gains wsL_gains ({ frames := 8, cells := 1, slots := 6, locals := 180 } : Room) [.ref ua, .int x1, .ref oa] g ([(oa, .inl (g.2.2.2, 1, .inr (.inl f)))] ++ (((ua, .inr (1, [.ref ar, .int c0])) :: W1))) (fun q w => (q = nI 0 ∧ ∃ (r : Int32) (w1 : va_W), post r w1 ∧ w = [(oa, .inl (g.2.2.2, 1, .inr (.inl (vp_updL f 0 r.toInt64))))] ++ w1) ∨ (w = [(oa, .inl (g.2.2.2, 1, .inr (.inl f)))] ++ ((ua, .inr (1, [.ref ar, .int c0])) :: W1) ∧ ((XE "java/lang/IndexOutOfBoundsException" ∧ q = nI 1)))) 1 6 := by
  intro sz A hAe
  refine va_MetW (cc := cL_gains) (maxL := 4) (ret := some .int) (by decide) rfl ?_
  intro p e s m args below meth c s₁ B hml hv
  obtain ⟨rfl, ⟨hsz, hP, hK, hD0⟩, hX⟩ := hv
  have hx := B.exec
  have hb := B.bytes
  have hr := B.returns
  have hts := atoms_spec (ws := wsL_gains) B.pre
  have hown : s.vm.findClass RL = some m.cls := findClass_of_methodNamed B.named
  have hlocks := B.notSynchronized
  obtain ⟨hD, hA, hS⟩ := z_in hsz hAe hD0
  have hl := lv_entry ([.ref ua, .int x1, .ref oa]) (n := 4) (Nat.le_of_ble_eq_true rfl)
  rw [lg_entry_eq]
  generalize (lg_sl ([.ref ua, .int x1, .ref oa]) ++ List.replicate (4 - (lg_sl ([.ref ua, .int x1, .ref oa])).length) Slot.unset).toArray = ls at hl ⊢
  have hl : lv_has ls 4 [(0, .ref ua), (1, .int x1), (2, .ref oa)] := hl
  have htab : c.exceptionTable.toList = tableOf [(0, 9, 12, 25)] := vx_table (x := yL_gains) B (hts (.codeWith yL_gains cL_gains 4 (some .int) [(0, 9, 12, 25)]) (by decide +kernel))
  refine lv_aload_n hx hb dL_gains_0 rfl (lv_at hl 2 rfl) ?_
  refine lv_iconst (v := nI 0) hx hb dL_gains_1 (by decide) ?_
  refine lv_aload_n hx hb dL_gains_2 rfl (lv_at hl 0 rfl) ?_
  refine lv_iload_n hx hb dL_gains_3 rfl (lv_at hl 1 rfl) ?_
  have hP : va_P g.1 vwCl ([(oa, .inl (g.2.2.2, 1, .inr (.inl f)))] ++ ((ua, .inr (1, [.ref ar, .int c0])) :: W1) ++ []) s.heap := by rw [List.append_nil]; exact hP
  have hD : va_D A ([(oa, .inl (g.2.2.2, 1, .inr (.inl f)))] ++ ((ua, .inr (1, [.ref ar, .int c0])) :: W1) ++ []) := by rw [List.append_nil]; exact hD
  refine z_axi (wa := [(oa, .inl (g.2.2.2, 1, .inr (.inl f)))]) (wc := ((ua, .inr (1, [.ref ar, .int c0])) :: W1)) (wb := []) (vx_runV (As := [.int x1]) (rest := [.int (nI 0), .ref oa]) ⟨hx, hb, hml, hown, hts⟩ (hM s.heap.size _ rfl) (cwV 1 hts gL_gains_X1_gains rfl rfl rfl (by decide +kernel) ⟨Nat.le_of_ble_eq_true rfl, Nat.le_of_ble_eq_true rfl⟩) (zpreXV (wa := [(oa, .inl (g.2.2.2, 1, .inr (.inl f)))]) (wc := ((ua, .inr (1, [.ref ar, .int c0])) :: W1)) (wb := []) (q0 := 0) (ci := 1) (T := TX1) (N := 2) hK hP hD hS hA hX rfl rfl) rfl rfl hl.1 rfl (lv_room (Nat.le_of_ble_eq_true rfl)) dL_gains_4 ⟨Nat.le_of_ble_eq_true rfl, Nat.le_of_ble_eq_true rfl⟩) hP hD hS hA (fun E ce q9 H locs hE hP hD hS hc1 hc2 hc3 => ?_) (fun r w1 H locs hq hP hD hS => ?_)
  · rw [List.append_nil] at hP hD
    rcases hXE E hE with rfl
    · refine vx_catch (own := RL) (E := "java/lang/IndexOutOfBoundsException") (name := "java/lang/IndexOutOfBoundsException") hown ([] : List ExceptionTableEntry) ⟨0, 9, 12, 25⟩ [] htab (fun z hz => absurd hz List.not_mem_nil) rfl (by decide) (hts (.classLink RL 25 "java/lang/IndexOutOfBoundsException") (by decide +kernel)) (va_Nw.use rfl (hX.2.2.1 (.castable "java/lang/IndexOutOfBoundsException" "java/lang/IndexOutOfBoundsException") (by decide +kernel))) hc1 hc2 hc3 ?_
      refine lv_astore_n (lv' := [(3, .ref q9), (0, .ref ua), (1, .int x1), (2, .ref oa)]) hx hb dL_gains_12 rfl hl (by decide) rfl (fun ls hl => ?_)
      refine lv_iconst (v := nI 1) hx hb dL_gains_13 (by decide) ?_
      exact z_iret hx hb hr hP hK hD hS dL_gains_14 hlocks (Or.inr ⟨rfl, ⟨hE, rfl⟩⟩)
  · rw [List.append_nil] at hP hD
    have hq0 := hq
    refine lv_i2l hx hb dL_gains_7 rfl ?_
    refine z_last hx hb hK hP hD hS 0 rfl dL_gains_8 (fun H locs hP hD hS => ?_)
    have hP : va_P g.1 vwCl ([(oa, .inl (g.2.2.2, 1, .inr (.inl (vp_updL f 0 r.toInt64))))] ++ w1) H := hP
    have hD : va_D A ([(oa, .inl (g.2.2.2, 1, .inr (.inl (vp_updL f 0 r.toInt64))))] ++ w1) := hD
    refine lv_goto (tgt := 15) hx hb dL_gains_9 (by decide) ?_
    refine lv_iconst (v := nI 0) hx hb dL_gains_15 (by decide) ?_
    exact z_iret hx hb hr hP hK hD hS dL_gains_16 hlocks (Or.inl ⟨rfl, r, w1, hq, rfl⟩)

set_option maxHeartbeats 4000000 in
set_option maxRecDepth 100000 in
theorem w_rateFor (l : Launch) (g : zG) (ua ar oa : Nat) (c0 : Int32) (W1 : va_W) (x1 x2 : Int32) (f : Nat → Int64) (post : Int32 → va_W → Prop) (XE : String → Prop) (hM : zXi l yX1_rateFor wsX1_rateFor ({ frames := 7, cells := 2, slots := 12, locals := 125 } : Room) [.ref ua, .int x1, .int x2] g ((ua, .inr (1, [.ref ar, .int c0])) :: W1) post XE 2 12) (hXE : ∀ E, XE E → E = "java/lang/IndexOutOfBoundsException" ∨ E = "java/lang/IllegalArgumentException") : zWi l yL_rateFor wsL_rateFor ({ frames := 8, cells := 2, slots := 12, locals := 180 } : Room) [.ref ua, .int x1, .int x2, .ref oa] g ([(oa, .inl (g.2.2.2, 1, .inr (.inl f)))] ++ (((ua, .inr (1, [.ref ar, .int c0])) :: W1))) (fun q w => (q = nI 0 ∧ ∃ (r : Int32) (w1 : va_W), post r w1 ∧ w = [(oa, .inl (g.2.2.2, 1, .inr (.inl (vp_updL f 0 r.toInt64))))] ++ w1) ∨ (w = [(oa, .inl (g.2.2.2, 1, .inr (.inl f)))] ++ ((ua, .inr (1, [.ref ar, .int c0])) :: W1) ∧ ((XE "java/lang/IndexOutOfBoundsException" ∧ q = nI 1) ∨ (XE "java/lang/IllegalArgumentException" ∧ q = nI 2)))) 2 12 := by
  intro sz A hAe
  refine va_MetW (cc := cL_rateFor) (maxL := 5) (ret := some .int) (by decide) rfl ?_
  intro p e s m args below meth c s₁ B hml hv
  obtain ⟨rfl, ⟨hsz, hP, hK, hD0⟩, hX⟩ := hv
  have hx := B.exec
  have hb := B.bytes
  have hr := B.returns
  have hts := atoms_spec (ws := wsL_rateFor) B.pre
  have hown : s.vm.findClass RL = some m.cls := findClass_of_methodNamed B.named
  have hlocks := B.notSynchronized
  obtain ⟨hD, hA, hS⟩ := z_in hsz hAe hD0
  have hl := lv_entry ([.ref ua, .int x1, .int x2, .ref oa]) (n := 5) (Nat.le_of_ble_eq_true rfl)
  rw [lg_entry_eq]
  generalize (lg_sl ([.ref ua, .int x1, .int x2, .ref oa]) ++ List.replicate (5 - (lg_sl ([.ref ua, .int x1, .int x2, .ref oa])).length) Slot.unset).toArray = ls at hl ⊢
  have hl : lv_has ls 5 [(0, .ref ua), (1, .int x1), (2, .int x2), (3, .ref oa)] := hl
  have htab : c.exceptionTable.toList = tableOf [(0, 10, 13, 25), (0, 10, 17, 13)] := vx_table (x := yL_rateFor) B (hts (.codeWith yL_rateFor cL_rateFor 5 (some .int) [(0, 10, 13, 25), (0, 10, 17, 13)]) (by decide +kernel))
  refine lv_aload_n hx hb dL_rateFor_0 rfl (lv_at hl 3 rfl) ?_
  refine lv_iconst (v := nI 0) hx hb dL_rateFor_1 (by decide) ?_
  refine lv_aload_n hx hb dL_rateFor_2 rfl (lv_at hl 0 rfl) ?_
  refine lv_iload_n hx hb dL_rateFor_3 rfl (lv_at hl 1 rfl) ?_
  refine lv_iload_n hx hb dL_rateFor_4 rfl (lv_at hl 2 rfl) ?_
  have hP : va_P g.1 vwCl ([(oa, .inl (g.2.2.2, 1, .inr (.inl f)))] ++ ((ua, .inr (1, [.ref ar, .int c0])) :: W1) ++ []) s.heap := by rw [List.append_nil]; exact hP
  have hD : va_D A ([(oa, .inl (g.2.2.2, 1, .inr (.inl f)))] ++ ((ua, .inr (1, [.ref ar, .int c0])) :: W1) ++ []) := by rw [List.append_nil]; exact hD
  refine z_axi (wa := [(oa, .inl (g.2.2.2, 1, .inr (.inl f)))]) (wc := ((ua, .inr (1, [.ref ar, .int c0])) :: W1)) (wb := []) (vx_runV (As := [.int x1, .int x2]) (rest := [.int (nI 0), .ref oa]) ⟨hx, hb, hml, hown, hts⟩ (hM s.heap.size _ rfl) (cwV 2 hts gL_rateFor_X1_rateFor rfl rfl rfl (by decide +kernel) ⟨Nat.le_of_ble_eq_true rfl, Nat.le_of_ble_eq_true rfl⟩) (zpreXV (wa := [(oa, .inl (g.2.2.2, 1, .inr (.inl f)))]) (wc := ((ua, .inr (1, [.ref ar, .int c0])) :: W1)) (wb := []) (q0 := 0) (ci := 1) (T := TX1) (N := 2) hK hP hD hS hA hX rfl rfl) rfl rfl hl.1 rfl (lv_room (Nat.le_of_ble_eq_true rfl)) dL_rateFor_5 ⟨Nat.le_of_ble_eq_true rfl, Nat.le_of_ble_eq_true rfl⟩) hP hD hS hA (fun E ce q9 H locs hE hP hD hS hc1 hc2 hc3 => ?_) (fun r w1 H locs hq hP hD hS => ?_)
  · rw [List.append_nil] at hP hD
    rcases hXE E hE with rfl | rfl
    · refine vx_catch (own := RL) (E := "java/lang/IndexOutOfBoundsException") (name := "java/lang/IndexOutOfBoundsException") hown ([] : List ExceptionTableEntry) ⟨0, 10, 13, 25⟩ [⟨0, 10, 17, 13⟩] htab (fun z hz => absurd hz List.not_mem_nil) rfl (by decide) (hts (.classLink RL 25 "java/lang/IndexOutOfBoundsException") (by decide +kernel)) (va_Nw.use rfl (hX.2.2.1 (.castable "java/lang/IndexOutOfBoundsException" "java/lang/IndexOutOfBoundsException") (by decide +kernel))) hc1 hc2 hc3 ?_
      refine lv_astore (lv' := [(4, .ref q9), (0, .ref ua), (1, .int x1), (2, .int x2), (3, .ref oa)]) hx hb dL_rateFor_13 hl (by decide) rfl (fun ls hl => ?_)
      refine lv_iconst (v := nI 1) hx hb dL_rateFor_15 (by decide) ?_
      exact z_iret hx hb hr hP hK hD hS dL_rateFor_16 hlocks (Or.inr ⟨rfl, Or.inl ⟨hE, rfl⟩⟩)
    · have hpass : ∀ z ∈ ([⟨0, 10, 13, 25⟩] : List ExceptionTableEntry), covers z 5 = false ∨ (z.catchType ≠ 0 ∧ ∃ nm : String, (Cond.classLink RL z.catchType nm).before ([.ref ua, .int x1, .int x2, .ref oa] : List Value).toArray s = true ∧ va_Nc "java/lang/IllegalArgumentException" nm s) := by
        intro z hz
        simp only [List.mem_cons, List.not_mem_nil, or_false] at hz
        subst hz
        · exact Or.inr ⟨by decide, "java/lang/IndexOutOfBoundsException", hts (.classLink RL 25 "java/lang/IndexOutOfBoundsException") (by decide +kernel), hX.2.2.2.2.2 ("java/lang/IllegalArgumentException", "java/lang/IndexOutOfBoundsException") (by decide +kernel)⟩
      refine vx_catch (own := RL) (E := "java/lang/IllegalArgumentException") (name := "java/lang/IllegalArgumentException") hown ([⟨0, 10, 13, 25⟩] : List ExceptionTableEntry) ⟨0, 10, 17, 13⟩ [] htab hpass rfl (by decide) (hts (.classLink RL 13 "java/lang/IllegalArgumentException") (by decide +kernel)) (va_Nw.use rfl (hX.2.2.1 (.castable "java/lang/IllegalArgumentException" "java/lang/IllegalArgumentException") (by decide +kernel))) hc1 hc2 hc3 ?_
      refine lv_astore (lv' := [(4, .ref q9), (0, .ref ua), (1, .int x1), (2, .int x2), (3, .ref oa)]) hx hb dL_rateFor_17 hl (by decide) rfl (fun ls hl => ?_)
      refine lv_iconst (v := nI 2) hx hb dL_rateFor_19 (by decide) ?_
      exact z_iret hx hb hr hP hK hD hS dL_rateFor_20 hlocks (Or.inr ⟨rfl, Or.inr (⟨hE, rfl⟩)⟩)
  · rw [List.append_nil] at hP hD
    have hq0 := hq
    refine lv_i2l hx hb dL_rateFor_8 rfl ?_
    refine z_last hx hb hK hP hD hS 0 rfl dL_rateFor_9 (fun H locs hP hD hS => ?_)
    have hP : va_P g.1 vwCl ([(oa, .inl (g.2.2.2, 1, .inr (.inl (vp_updL f 0 r.toInt64))))] ++ w1) H := hP
    have hD : va_D A ([(oa, .inl (g.2.2.2, 1, .inr (.inl (vp_updL f 0 r.toInt64))))] ++ w1) := hD
    refine lv_goto (tgt := 21) hx hb dL_rateFor_10 (by decide) ?_
    refine lv_iconst (v := nI 0) hx hb dL_rateFor_21 (by decide) ?_
    exact z_iret hx hb hr hP hK hD hS dL_rateFor_22 hlocks (Or.inl ⟨rfl, r, w1, hq, rfl⟩)

set_option maxHeartbeats 4000000 in
set_option maxRecDepth 100000 in
theorem w_saleGain (l : Launch) (g : zG) (ua ar oa : Nat) (c0 : Int32) (W1 : va_W) (x1 x2 x3 : Int32) (f : Nat → Int64) (post : Int32 → va_W → Prop) (XE : String → Prop) (hM : zXi l yX1_saleGain wsX1_saleGain ({ frames := 7, cells := 3, slots := 18, locals := 125 } : Room) [.ref ua, .int x1, .int x2, .int x3] g ((ua, .inr (1, [.ref ar, .int c0])) :: W1) post XE 3 18) (hXE : ∀ E, XE E → E = "java/lang/IndexOutOfBoundsException" ∨ E = "java/lang/IllegalArgumentException") : zWi l yL_saleGain wsL_saleGain ({ frames := 8, cells := 3, slots := 18, locals := 180 } : Room) [.ref ua, .int x1, .int x2, .int x3, .ref oa] g ([(oa, .inl (g.2.2.2, 1, .inr (.inl f)))] ++ (((ua, .inr (1, [.ref ar, .int c0])) :: W1))) (fun q w => (q = nI 0 ∧ ∃ (r : Int32) (w1 : va_W), post r w1 ∧ w = [(oa, .inl (g.2.2.2, 1, .inr (.inl (vp_updL f 0 r.toInt64))))] ++ w1) ∨ (w = [(oa, .inl (g.2.2.2, 1, .inr (.inl f)))] ++ ((ua, .inr (1, [.ref ar, .int c0])) :: W1) ∧ ((XE "java/lang/IndexOutOfBoundsException" ∧ q = nI 1) ∨ (XE "java/lang/IllegalArgumentException" ∧ q = nI 2)))) 3 18 := by
  intro sz A hAe
  refine va_MetW (cc := cL_saleGain) (maxL := 6) (ret := some .int) (by decide) rfl ?_
  intro p e s m args below meth c s₁ B hml hv
  obtain ⟨rfl, ⟨hsz, hP, hK, hD0⟩, hX⟩ := hv
  have hx := B.exec
  have hb := B.bytes
  have hr := B.returns
  have hts := atoms_spec (ws := wsL_saleGain) B.pre
  have hown : s.vm.findClass RL = some m.cls := findClass_of_methodNamed B.named
  have hlocks := B.notSynchronized
  obtain ⟨hD, hA, hS⟩ := z_in hsz hAe hD0
  have hl := lv_entry ([.ref ua, .int x1, .int x2, .int x3, .ref oa]) (n := 6) (Nat.le_of_ble_eq_true rfl)
  rw [lg_entry_eq]
  generalize (lg_sl ([.ref ua, .int x1, .int x2, .int x3, .ref oa]) ++ List.replicate (6 - (lg_sl ([.ref ua, .int x1, .int x2, .int x3, .ref oa])).length) Slot.unset).toArray = ls at hl ⊢
  have hl : lv_has ls 6 [(0, .ref ua), (1, .int x1), (2, .int x2), (3, .int x3), (4, .ref oa)] := hl
  have htab : c.exceptionTable.toList = tableOf [(0, 12, 15, 25), (0, 12, 19, 13)] := vx_table (x := yL_saleGain) B (hts (.codeWith yL_saleGain cL_saleGain 6 (some .int) [(0, 12, 15, 25), (0, 12, 19, 13)]) (by decide +kernel))
  refine lv_aload hx hb dL_saleGain_0 (lv_at hl 4 rfl) ?_
  refine lv_iconst (v := nI 0) hx hb dL_saleGain_2 (by decide) ?_
  refine lv_aload_n hx hb dL_saleGain_3 rfl (lv_at hl 0 rfl) ?_
  refine lv_iload_n hx hb dL_saleGain_4 rfl (lv_at hl 1 rfl) ?_
  refine lv_iload_n hx hb dL_saleGain_5 rfl (lv_at hl 2 rfl) ?_
  refine lv_iload_n hx hb dL_saleGain_6 rfl (lv_at hl 3 rfl) ?_
  have hP : va_P g.1 vwCl ([(oa, .inl (g.2.2.2, 1, .inr (.inl f)))] ++ ((ua, .inr (1, [.ref ar, .int c0])) :: W1) ++ []) s.heap := by rw [List.append_nil]; exact hP
  have hD : va_D A ([(oa, .inl (g.2.2.2, 1, .inr (.inl f)))] ++ ((ua, .inr (1, [.ref ar, .int c0])) :: W1) ++ []) := by rw [List.append_nil]; exact hD
  refine z_axi (wa := [(oa, .inl (g.2.2.2, 1, .inr (.inl f)))]) (wc := ((ua, .inr (1, [.ref ar, .int c0])) :: W1)) (wb := []) (vx_runV (As := [.int x1, .int x2, .int x3]) (rest := [.int (nI 0), .ref oa]) ⟨hx, hb, hml, hown, hts⟩ (hM s.heap.size _ rfl) (cwV 3 hts gL_saleGain_X1_saleGain rfl rfl rfl (by decide +kernel) ⟨Nat.le_of_ble_eq_true rfl, Nat.le_of_ble_eq_true rfl⟩) (zpreXV (wa := [(oa, .inl (g.2.2.2, 1, .inr (.inl f)))]) (wc := ((ua, .inr (1, [.ref ar, .int c0])) :: W1)) (wb := []) (q0 := 0) (ci := 1) (T := TX1) (N := 2) hK hP hD hS hA hX rfl rfl) rfl rfl hl.1 rfl (lv_room (Nat.le_of_ble_eq_true rfl)) dL_saleGain_7 ⟨Nat.le_of_ble_eq_true rfl, Nat.le_of_ble_eq_true rfl⟩) hP hD hS hA (fun E ce q9 H locs hE hP hD hS hc1 hc2 hc3 => ?_) (fun r w1 H locs hq hP hD hS => ?_)
  · rw [List.append_nil] at hP hD
    rcases hXE E hE with rfl | rfl
    · refine vx_catch (own := RL) (E := "java/lang/IndexOutOfBoundsException") (name := "java/lang/IndexOutOfBoundsException") hown ([] : List ExceptionTableEntry) ⟨0, 12, 15, 25⟩ [⟨0, 12, 19, 13⟩] htab (fun z hz => absurd hz List.not_mem_nil) rfl (by decide) (hts (.classLink RL 25 "java/lang/IndexOutOfBoundsException") (by decide +kernel)) (va_Nw.use rfl (hX.2.2.1 (.castable "java/lang/IndexOutOfBoundsException" "java/lang/IndexOutOfBoundsException") (by decide +kernel))) hc1 hc2 hc3 ?_
      refine lv_astore (lv' := [(5, .ref q9), (0, .ref ua), (1, .int x1), (2, .int x2), (3, .int x3), (4, .ref oa)]) hx hb dL_saleGain_15 hl (by decide) rfl (fun ls hl => ?_)
      refine lv_iconst (v := nI 1) hx hb dL_saleGain_17 (by decide) ?_
      exact z_iret hx hb hr hP hK hD hS dL_saleGain_18 hlocks (Or.inr ⟨rfl, Or.inl ⟨hE, rfl⟩⟩)
    · have hpass : ∀ z ∈ ([⟨0, 12, 15, 25⟩] : List ExceptionTableEntry), covers z 7 = false ∨ (z.catchType ≠ 0 ∧ ∃ nm : String, (Cond.classLink RL z.catchType nm).before ([.ref ua, .int x1, .int x2, .int x3, .ref oa] : List Value).toArray s = true ∧ va_Nc "java/lang/IllegalArgumentException" nm s) := by
        intro z hz
        simp only [List.mem_cons, List.not_mem_nil, or_false] at hz
        subst hz
        · exact Or.inr ⟨by decide, "java/lang/IndexOutOfBoundsException", hts (.classLink RL 25 "java/lang/IndexOutOfBoundsException") (by decide +kernel), hX.2.2.2.2.2 ("java/lang/IllegalArgumentException", "java/lang/IndexOutOfBoundsException") (by decide +kernel)⟩
      refine vx_catch (own := RL) (E := "java/lang/IllegalArgumentException") (name := "java/lang/IllegalArgumentException") hown ([⟨0, 12, 15, 25⟩] : List ExceptionTableEntry) ⟨0, 12, 19, 13⟩ [] htab hpass rfl (by decide) (hts (.classLink RL 13 "java/lang/IllegalArgumentException") (by decide +kernel)) (va_Nw.use rfl (hX.2.2.1 (.castable "java/lang/IllegalArgumentException" "java/lang/IllegalArgumentException") (by decide +kernel))) hc1 hc2 hc3 ?_
      refine lv_astore (lv' := [(5, .ref q9), (0, .ref ua), (1, .int x1), (2, .int x2), (3, .int x3), (4, .ref oa)]) hx hb dL_saleGain_19 hl (by decide) rfl (fun ls hl => ?_)
      refine lv_iconst (v := nI 2) hx hb dL_saleGain_21 (by decide) ?_
      exact z_iret hx hb hr hP hK hD hS dL_saleGain_22 hlocks (Or.inr ⟨rfl, Or.inr (⟨hE, rfl⟩)⟩)
  · rw [List.append_nil] at hP hD
    have hq0 := hq
    refine lv_i2l hx hb dL_saleGain_10 rfl ?_
    refine z_last hx hb hK hP hD hS 0 rfl dL_saleGain_11 (fun H locs hP hD hS => ?_)
    have hP : va_P g.1 vwCl ([(oa, .inl (g.2.2.2, 1, .inr (.inl (vp_updL f 0 r.toInt64))))] ++ w1) H := hP
    have hD : va_D A ([(oa, .inl (g.2.2.2, 1, .inr (.inl (vp_updL f 0 r.toInt64))))] ++ w1) := hD
    refine lv_goto (tgt := 23) hx hb dL_saleGain_12 (by decide) ?_
    refine lv_iconst (v := nI 0) hx hb dL_saleGain_23 (by decide) ?_
    exact z_iret hx hb hr hP hK hD hS dL_saleGain_24 hlocks (Or.inl ⟨rfl, r, w1, hq, rfl⟩)
