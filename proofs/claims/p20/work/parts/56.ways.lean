/-! p20: the check of all leases, and the ways to the acts -/
section ZLW
variable {p : Program} {l : Launch} {e : Env} {s : State} {m : MethodId} {below : List Frame} {meth : Method} {c : Code} {b L : Nat} {xs : Nat → Int32} {g : zG} {ua ar co mo cnt k rv c0 s0 cN sN : Nat} {rows : Nat → Option Nat} {cs ms : Nat → Int32} {aa : Nat → Nat × Nat × Nat} {rr ff : Nat → Nat} {zz : Nat → zS} {qq : Nat → zRaw} {Q : State → Prop} {H : Heap} {locs : List Loc} {ls : Array Slot} {x7 x8 : Int32}
set_option maxHeartbeats 4000000 in
set_option maxRecDepth 100000 in
theorem L_check  (hst : l.stackTraces = false) (hL : L ≤ 260) (C0 : lw_At p s m meth c b L xs) (hK : zK g s) (hX : zX (fun q : Nat => s.heap.size ≤ q) s s.heap) (hcN : c0 + 90 ≤ cN) (hsN : s0 + 600 ≤ sN) (hcR : cN ≤ room_1.cells) (hsR : sN ≤ room_1.slots) (hI : zTw cnt rows cs ms aa rr ff zz qq rv)  (hP : va_P g.1 vwCl (([(ua, .inr (1, [.ref ar, .int (nI cnt)])), (ar, .inl (g.2.2.1, 6, .inr (.inr (.inr (.inr rows))))), (co, .inl (g.2.1, 6, .inl cs)), (mo, .inl (g.2.1, 6, .inl ms))] ++ (zLs g cnt aa rr ff zz qq))) H) (hD : va_D (fun q : Nat => s.heap.size ≤ q) (([(ua, .inr (1, [.ref ar, .int (nI cnt)])), (ar, .inl (g.2.2.1, 6, .inr (.inr (.inr (.inr rows))))), (co, .inl (g.2.1, 6, .inl cs)), (mo, .inl (g.2.1, 6, .inl ms))] ++ (zLs g cnt aa rr ff zz qq)))) (hS : va_S (fun q : Nat => s.heap.size ≤ q) s.heap H locs) (hl : lv_has ls 14 [(0, .ref b), (1, .ref ua), (2, .ref co), (3, .ref mo), (4, .int (nI cnt)), (5, .int (nI rv)), (6, .int (nI k))]) (nx : zNx p l e s m below meth c Q g b ua ar co mo (k + 1) cN sN 27) : W p l e room_1 s m #[Value.ref b] below meth c H locs c0 s0 Q (F0 m 541 ls []) := by
  obtain ⟨hx, hb, hr, hml, hown, hts0, hXs, hbl, hlocks, hgv⟩ := id C0
  have hown : s.vm.findClass RL = some m.cls := hown
  have hts : ∀ w ∈ wsL_law, w.before #[Value.ref b] s = true := fun w h => hts0 w (wsL_law_in w h)
  have hA : ∀ q : Nat, s.heap.size ≤ q → (fun q : Nat => s.heap.size ≤ q) q := fun _ h => h
  have hbA : ¬ (fun q : Nat => s.heap.size ≤ q) b := Nat.not_le.mpr hbl
  obtain ⟨i1, i2, i3, i4, i5, i6, i7, i8⟩ := id hI
  refine lv_iconst (v := nI 0) hx hb dL_law_541 (by decide) ?_
  refine lv_istore (lv' := [(12, .int (nI 0)), (0, .ref b), (1, .ref ua), (2, .ref co), (3, .ref mo), (4, .int (nI cnt)), (5, .int (nI rv)), (6, .int (nI k))]) hx hb dL_law_542 hl (by decide) rfl (fun ls hl => ?_)
  have loop : ∀ (n i : Nat) (H : Heap) (locs : List Loc) (ls : Array Slot), cnt < i + n → i ≤ cnt → va_P g.1 vwCl (([(ua, .inr (1, [.ref ar, .int (nI cnt)])), (ar, .inl (g.2.2.1, 6, .inr (.inr (.inr (.inr rows))))), (co, .inl (g.2.1, 6, .inl cs)), (mo, .inl (g.2.1, 6, .inl ms))] ++ (zLs g cnt aa rr ff zz qq))) H → va_D (fun q : Nat => s.heap.size ≤ q) (([(ua, .inr (1, [.ref ar, .int (nI cnt)])), (ar, .inl (g.2.2.1, 6, .inr (.inr (.inr (.inr rows))))), (co, .inl (g.2.1, 6, .inl cs)), (mo, .inl (g.2.1, 6, .inl ms))] ++ (zLs g cnt aa rr ff zz qq))) → va_S (fun q : Nat => s.heap.size ≤ q) s.heap H locs → lv_has ls 14 [(12, .int (nI i)), (0, .ref b), (1, .ref ua), (2, .ref co), (3, .ref mo), (4, .int (nI cnt)), (5, .int (nI rv)), (6, .int (nI k))] → W p l e room_1 s m #[Value.ref b] below meth c H locs (c0 + 13 * i) (s0 + 78 * i) Q (F0 m 544 ls []) := by
    intro n
    induction n with
    | zero =>
      intro i H locs ls hn hi hP hD hS hl
      exfalso; omega
    | succ n ih =>
      intro i H locs ls hn hi hP hD hS hl
      refine lv_iload hx hb dL_law_544 (lv_at hl 0 rfl) ?_
      refine lv_iload hx hb dL_law_546 (lv_at hl 5 rfl) ?_
      refine z_icmp_ge (tgt := 572) hx hb dL_law_548 (by decide) (by omega) (by omega) (fun hc => ?_) (fun hc => ?_)
      · refine z_iinc (lv' := [(6, .int (nI (k + 1))), (12, .int (nI i)), (0, .ref b), (1, .ref ua), (2, .ref co), (3, .ref mo), (4, .int (nI cnt)), (5, .int (nI rv))]) hx hb dL_law_572 hl (k := 7) rfl (by decide) rfl (fun ls hl => ?_)
        refine lv_goto (tgt := 27) hx hb dL_law_575 (by decide) ?_
        refine W.widen (k := cN) (n := sN) (by omega) (by omega) ?_
        exact nx cnt rv rows cs ms aa rr ff zz qq H _ ls hI hP hD hS (lv_sub hl [2, 3, 4, 5, 6, 7, 0] rfl)
      · refine lv_aload_n hx hb dL_law_551 rfl (lv_at hl 2 rfl) ?_
        refine lv_iload hx hb dL_law_552 (lv_at hl 0 rfl) ?_
        refine lv_aload_n hx hb dL_law_554 rfl (lv_at hl 3 rfl) ?_
        refine lv_iload hx hb dL_law_555 (lv_at hl 0 rfl) ?_
        refine z_iald hx hb hK hP 2 0 rfl rfl (by omega) (by decide) dL_law_557 ?_
        refine z_ai0 (wc := ([(ua, .inr (1, [.ref ar, .int (nI cnt)])), (ar, .inl (g.2.2.1, 6, .inr (.inr (.inr (.inr rows))))), (co, .inl (g.2.1, 6, .inl cs)), (mo, .inl (g.2.1, 6, .inl ms))] ++ (zLs g cnt aa rr ff zz qq))) (va_runS (As := [.ref ua, .int (nI i), .int (cs i)]) (rest := []) ⟨hx, hb, hml, hown, hts⟩ (K_adds l hst g ua ar co mo cnt rows cs ms aa rr ff zz qq i hc hI H.size _ rfl) (va_cwS 3 hts gL_law_L_adds rfl rfl rfl (by decide +kernel) ⟨Nat.le_of_ble_eq_true rfl, Nat.le_of_ble_eq_true rfl⟩) (zpreXS0 (wc := ([(ua, .inr (1, [.ref ar, .int (nI cnt)])), (ar, .inl (g.2.2.1, 6, .inr (.inr (.inr (.inr rows))))), (co, .inl (g.2.1, 6, .inl cs)), (mo, .inl (g.2.1, 6, .inl ms))] ++ (zLs g cnt aa rr ff zz qq))) hK hP hD hS hA hX) rfl rfl hl.1 rfl (lv_room (Nat.le_of_ble_eq_true rfl)) dL_law_558 ⟨by omega, by omega⟩) hP hD hS hA (fun r9 w1 H locs hq hP hD hS => ?_)
        obtain ⟨rfl, rfl⟩ := hq
        have hP : va_P g.1 vwCl (([(ua, .inr (1, [.ref ar, .int (nI cnt)])), (ar, .inl (g.2.2.1, 6, .inr (.inr (.inr (.inr rows))))), (co, .inl (g.2.1, 6, .inl cs)), (mo, .inl (g.2.1, 6, .inl ms))] ++ (zLs g cnt aa rr ff zz qq))) H := hP
        have hD : va_D (fun q : Nat => s.heap.size ≤ q) (([(ua, .inr (1, [.ref ar, .int (nI cnt)])), (ar, .inl (g.2.2.1, 6, .inr (.inr (.inr (.inr rows))))), (co, .inl (g.2.1, 6, .inl cs)), (mo, .inl (g.2.1, 6, .inl ms))] ++ (zLs g cnt aa rr ff zz qq))) := hD
        refine z_if_ne (tgt := 566) hx hb dL_law_561 (by decide) (by decide) (fun _ => ?_) (fun h => absurd h (by decide))
        refine z_iinc (lv' := [(12, .int (nI (i + 1))), (0, .ref b), (1, .ref ua), (2, .ref co), (3, .ref mo), (4, .int (nI cnt)), (5, .int (nI rv)), (6, .int (nI k))]) hx hb dL_law_566 hl (k := 0) rfl (by decide) rfl (fun ls hl => ?_)
        refine lv_goto (tgt := 544) hx hb dL_law_569 (by decide) ?_
        refine W.widen (k := c0 + 13 * (i + 1)) (n := s0 + 78 * (i + 1)) (by omega) (by omega) ?_
        exact ih (i + 1) H _ ls (by omega) (by omega) hP hD hS (lv_sub hl [0, 1, 2, 3, 4, 5, 6, 7] rfl)
  exact loop (cnt + 1) 0 H _ ls (by omega) (by omega) hP hD hS (lv_sub hl [0, 1, 2, 3, 4, 5, 6, 7] rfl)

set_option maxHeartbeats 4000000 in
set_option maxRecDepth 100000 in
theorem L_d4 {j w : Nat} (hst : l.stackTraces = false) (hL : L ≤ 260) (C0 : lw_At p s m meth c b L xs) (hK : zK g s) (hX : zX (fun q : Nat => s.heap.size ≤ q) s s.heap) (hcN : c0 + 90 ≤ cN) (hsN : s0 + 600 ≤ sN) (hcR : cN ≤ room_1.cells) (hsR : sN ≤ room_1.slots) (hI : zTw cnt rows cs ms aa rr ff zz qq rv) (hj : j < cnt) (hw : w < 8) (hP : va_P g.1 vwCl (([(ua, .inr (1, [.ref ar, .int (nI cnt)])), (ar, .inl (g.2.2.1, 6, .inr (.inr (.inr (.inr rows))))), (co, .inl (g.2.1, 6, .inl cs)), (mo, .inl (g.2.1, 6, .inl ms))] ++ (zLs g cnt aa rr ff zz qq))) H) (hD : va_D (fun q : Nat => s.heap.size ≤ q) (([(ua, .inr (1, [.ref ar, .int (nI cnt)])), (ar, .inl (g.2.2.1, 6, .inr (.inr (.inr (.inr rows))))), (co, .inl (g.2.1, 6, .inl cs)), (mo, .inl (g.2.1, 6, .inl ms))] ++ (zLs g cnt aa rr ff zz qq)))) (hS : va_S (fun q : Nat => s.heap.size ≤ q) s.heap H locs) (hl : lv_has ls 14 [(0, .ref b), (1, .ref ua), (2, .ref co), (3, .ref mo), (4, .int (nI cnt)), (5, .int (nI rv)), (6, .int (nI k)), (8, .int x8), (9, .int (nI w)), (10, .int (nI j)), (11, .int (nI ((zz j).1 - (zz j).2.1)))]) (nx : zNx p l e s m below meth c Q g b ua ar co mo k cN sN 541) : W p l e room_1 s m #[Value.ref b] below meth c H locs c0 s0 Q (F0 m 493 ls []) := by
  obtain ⟨hx, hb, hr, hml, hown, hts0, hXs, hbl, hlocks, hgv⟩ := id C0
  have hown : s.vm.findClass RL = some m.cls := hown
  have hts : ∀ w ∈ wsL_law, w.before #[Value.ref b] s = true := fun w h => hts0 w (wsL_law_in w h)
  have hA : ∀ q : Nat, s.heap.size ≤ q → (fun q : Nat => s.heap.size ≤ q) q := fun _ h => h
  have hbA : ¬ (fun q : Nat => s.heap.size ≤ q) b := Nat.not_le.mpr hbl
  obtain ⟨i1, i2, i3, i4, i5, i6, i7, i8⟩ := id hI
  obtain ⟨t1, t2, t3⟩ := zInv_T (i5 j hj)
  refine lv_iload hx hb dL_law_493 (lv_at hl 8 rfl) ?_
  refine lv_iconst (v := nI 5) hx hb dL_law_495 (by decide) ?_
  refine z_icmp_le (tgt := 541) hx hb dL_law_496 (by decide) (by omega) (by omega) (fun h1 => ?_) (fun h1 => ?_)
  · refine W.widen (k := cN) (n := sN) (by omega) (by omega) ?_
    exact nx cnt rv rows cs ms aa rr ff zz qq H _ ls hI hP hD hS (lv_sub hl [0, 1, 2, 3, 4, 5, 6] rfl)
  · refine lv_iload hx hb dL_law_499 (lv_at hl 10 rfl) ?_
    refine z_if_le (tgt := 541) hx hb dL_law_501 (by decide) (by omega) (fun h2 => ?_) (fun h2 => ?_)
    · refine W.widen (k := cN) (n := sN) (by omega) (by omega) ?_
      exact nx cnt rv rows cs ms aa rr ff zz qq H _ ls hI hP hD hS (lv_sub hl [0, 1, 2, 3, 4, 5, 6] rfl)
    · exact L_cut hst hL C0 hK hX (by omega) (by omega) hcR hsR hI hj (by omega) hP hD hS (lv_sub hl [0, 1, 2, 3, 4, 5, 6, 7, 9, 10] rfl) nx

set_option maxHeartbeats 4000000 in
set_option maxRecDepth 100000 in
theorem L_d3 {j w : Nat} (hst : l.stackTraces = false) (hL : L ≤ 260) (C0 : lw_At p s m meth c b L xs) (hK : zK g s) (hX : zX (fun q : Nat => s.heap.size ≤ q) s s.heap) (hcN : c0 + 90 ≤ cN) (hsN : s0 + 600 ≤ sN) (hcR : cN ≤ room_1.cells) (hsR : sN ≤ room_1.slots) (hI : zTw cnt rows cs ms aa rr ff zz qq rv) (hj : j < cnt) (hw : w < 8) (hP : va_P g.1 vwCl (([(ua, .inr (1, [.ref ar, .int (nI cnt)])), (ar, .inl (g.2.2.1, 6, .inr (.inr (.inr (.inr rows))))), (co, .inl (g.2.1, 6, .inl cs)), (mo, .inl (g.2.1, 6, .inl ms))] ++ (zLs g cnt aa rr ff zz qq))) H) (hD : va_D (fun q : Nat => s.heap.size ≤ q) (([(ua, .inr (1, [.ref ar, .int (nI cnt)])), (ar, .inl (g.2.2.1, 6, .inr (.inr (.inr (.inr rows))))), (co, .inl (g.2.1, 6, .inl cs)), (mo, .inl (g.2.1, 6, .inl ms))] ++ (zLs g cnt aa rr ff zz qq)))) (hS : va_S (fun q : Nat => s.heap.size ≤ q) s.heap H locs) (hl : lv_has ls 14 [(0, .ref b), (1, .ref ua), (2, .ref co), (3, .ref mo), (4, .int (nI cnt)), (5, .int (nI rv)), (6, .int (nI k)), (8, .int x8), (9, .int (nI w)), (10, .int (nI j)), (11, .int (nI ((zz j).1 - (zz j).2.1)))]) (nx : zNx p l e s m below meth c Q g b ua ar co mo k cN sN 541) : W p l e room_1 s m #[Value.ref b] below meth c H locs c0 s0 Q (F0 m 408 ls []) := by
  obtain ⟨hx, hb, hr, hml, hown, hts0, hXs, hbl, hlocks, hgv⟩ := id C0
  have hown : s.vm.findClass RL = some m.cls := hown
  have hts : ∀ w ∈ wsL_law, w.before #[Value.ref b] s = true := fun w h => hts0 w (wsL_law_in w h)
  have hA : ∀ q : Nat, s.heap.size ≤ q → (fun q : Nat => s.heap.size ≤ q) q := fun _ h => h
  have hbA : ¬ (fun q : Nat => s.heap.size ≤ q) b := Nat.not_le.mpr hbl
  obtain ⟨i1, i2, i3, i4, i5, i6, i7, i8⟩ := id hI
  obtain ⟨t1, t2, t3⟩ := zInv_T (i5 j hj)
  refine lv_iload hx hb dL_law_408 (lv_at hl 8 rfl) ?_
  refine lv_iconst (v := nI 5) hx hb dL_law_410 (by decide) ?_
  refine z_icmp_ne (tgt := 493) hx hb dL_law_411 (by decide) (by omega) (by omega) (fun h1 => ?_) (fun h1 => ?_)
  · exact L_d4 hst hL C0 hK hX (by omega) (by omega) hcR hsR hI hj hw hP hD hS (lv_sub hl [0, 1, 2, 3, 4, 5, 6, 7, 8, 9, 10] rfl) nx
  · refine lv_iload hx hb dL_law_414 (lv_at hl 10 rfl) ?_
    refine lv_iconst (v := nI 1) hx hb dL_law_416 (by decide) ?_
    refine z_icmp_le (tgt := 493) hx hb dL_law_417 (by decide) (by omega) (by omega) (fun h2 => ?_) (fun h2 => ?_)
    · exact L_d4 hst hL C0 hK hX (by omega) (by omega) hcR hsR hI hj hw hP hD hS (lv_sub hl [0, 1, 2, 3, 4, 5, 6, 7, 8, 9, 10] rfl) nx
    · exact L_short hst hL C0 hK hX (by omega) (by omega) hcR hsR hI hj (by omega) hP hD hS (lv_sub hl [0, 1, 2, 3, 4, 5, 6, 7, 9, 10] rfl) nx

set_option maxHeartbeats 4000000 in
set_option maxRecDepth 100000 in
theorem L_d2 {j w : Nat} (hst : l.stackTraces = false) (hL : L ≤ 260) (C0 : lw_At p s m meth c b L xs) (hK : zK g s) (hX : zX (fun q : Nat => s.heap.size ≤ q) s s.heap) (hcN : c0 + 90 ≤ cN) (hsN : s0 + 600 ≤ sN) (hcR : cN ≤ room_1.cells) (hsR : sN ≤ room_1.slots) (hI : zTw cnt rows cs ms aa rr ff zz qq rv) (hj : j < cnt) (hw : w < 8) (hP : va_P g.1 vwCl (([(ua, .inr (1, [.ref ar, .int (nI cnt)])), (ar, .inl (g.2.2.1, 6, .inr (.inr (.inr (.inr rows))))), (co, .inl (g.2.1, 6, .inl cs)), (mo, .inl (g.2.1, 6, .inl ms))] ++ (zLs g cnt aa rr ff zz qq))) H) (hD : va_D (fun q : Nat => s.heap.size ≤ q) (([(ua, .inr (1, [.ref ar, .int (nI cnt)])), (ar, .inl (g.2.2.1, 6, .inr (.inr (.inr (.inr rows))))), (co, .inl (g.2.1, 6, .inl cs)), (mo, .inl (g.2.1, 6, .inl ms))] ++ (zLs g cnt aa rr ff zz qq)))) (hS : va_S (fun q : Nat => s.heap.size ≤ q) s.heap H locs) (hl : lv_has ls 14 [(0, .ref b), (1, .ref ua), (2, .ref co), (3, .ref mo), (4, .int (nI cnt)), (5, .int (nI rv)), (6, .int (nI k)), (8, .int x8), (9, .int (nI w)), (10, .int (nI j)), (11, .int (nI ((zz j).1 - (zz j).2.1)))]) (nx : zNx p l e s m below meth c Q g b ua ar co mo k cN sN 541) : W p l e room_1 s m #[Value.ref b] below meth c H locs c0 s0 Q (F0 m 330 ls []) := by
  obtain ⟨hx, hb, hr, hml, hown, hts0, hXs, hbl, hlocks, hgv⟩ := id C0
  have hown : s.vm.findClass RL = some m.cls := hown
  have hts : ∀ w ∈ wsL_law, w.before #[Value.ref b] s = true := fun w h => hts0 w (wsL_law_in w h)
  have hA : ∀ q : Nat, s.heap.size ≤ q → (fun q : Nat => s.heap.size ≤ q) q := fun _ h => h
  have hbA : ¬ (fun q : Nat => s.heap.size ≤ q) b := Nat.not_le.mpr hbl
  obtain ⟨i1, i2, i3, i4, i5, i6, i7, i8⟩ := id hI
  obtain ⟨t1, t2, t3⟩ := zInv_T (i5 j hj)
  refine lv_iload hx hb dL_law_330 (lv_at hl 8 rfl) ?_
  refine lv_iconst (v := nI 4) hx hb dL_law_332 (by decide) ?_
  refine z_icmp_ne (tgt := 408) hx hb dL_law_333 (by decide) (by omega) (by omega) (fun h1 => ?_) (fun h1 => ?_)
  · exact L_d3 hst hL C0 hK hX (by omega) (by omega) hcR hsR hI hj hw hP hD hS (lv_sub hl [0, 1, 2, 3, 4, 5, 6, 7, 8, 9, 10] rfl) nx
  · refine lv_iload hx hb dL_law_336 (lv_at hl 10 rfl) ?_
    refine z_if_le (tgt := 408) hx hb dL_law_338 (by decide) (by omega) (fun h2 => ?_) (fun h2 => ?_)
    · exact L_d3 hst hL C0 hK hX (by omega) (by omega) hcR hsR hI hj hw hP hD hS (lv_sub hl [0, 1, 2, 3, 4, 5, 6, 7, 8, 9, 10] rfl) nx
    · refine lv_aload_n hx hb dL_law_341 rfl (lv_at hl 3 rfl) ?_
      refine lv_iload hx hb dL_law_342 (lv_at hl 9 rfl) ?_
      refine z_iald hx hb hK hP 3 0 rfl rfl (by omega) (by decide) dL_law_344 ?_
      refine zi (y := nI ((zz j).1)) (i8 j hj) ?_
      refine lv_bipush (v := nI 110) hx hb dL_law_345 (by decide) ?_
      refine z_icmp_ge (tgt := 408) hx hb dL_law_347 (by decide) (by omega) (by omega) (fun h3 => ?_) (fun h3 => ?_)
      · exact L_d3 hst hL C0 hK hX (by omega) (by omega) hcR hsR hI hj hw hP hD hS (lv_sub hl [0, 1, 2, 3, 4, 5, 6, 7, 8, 9, 10] rfl) nx
      · exact L_len hst hL C0 hK hX (by omega) (by omega) hcR hsR hI hj (by omega) h3 hP hD hS (lv_sub hl [0, 1, 2, 3, 4, 5, 6, 7, 9, 10] rfl) nx

set_option maxHeartbeats 4000000 in
set_option maxRecDepth 100000 in
theorem L_d1 {j w : Nat} (hst : l.stackTraces = false) (hL : L ≤ 260) (C0 : lw_At p s m meth c b L xs) (hK : zK g s) (hX : zX (fun q : Nat => s.heap.size ≤ q) s s.heap) (hcN : c0 + 90 ≤ cN) (hsN : s0 + 600 ≤ sN) (hcR : cN ≤ room_1.cells) (hsR : sN ≤ room_1.slots) (hI : zTw cnt rows cs ms aa rr ff zz qq rv) (hj : j < cnt) (hw : w < 8) (hP : va_P g.1 vwCl (([(ua, .inr (1, [.ref ar, .int (nI cnt)])), (ar, .inl (g.2.2.1, 6, .inr (.inr (.inr (.inr rows))))), (co, .inl (g.2.1, 6, .inl cs)), (mo, .inl (g.2.1, 6, .inl ms))] ++ (zLs g cnt aa rr ff zz qq))) H) (hD : va_D (fun q : Nat => s.heap.size ≤ q) (([(ua, .inr (1, [.ref ar, .int (nI cnt)])), (ar, .inl (g.2.2.1, 6, .inr (.inr (.inr (.inr rows))))), (co, .inl (g.2.1, 6, .inl cs)), (mo, .inl (g.2.1, 6, .inl ms))] ++ (zLs g cnt aa rr ff zz qq)))) (hS : va_S (fun q : Nat => s.heap.size ≤ q) s.heap H locs) (hl : lv_has ls 14 [(0, .ref b), (1, .ref ua), (2, .ref co), (3, .ref mo), (4, .int (nI cnt)), (5, .int (nI rv)), (6, .int (nI k)), (8, .int x8), (9, .int (nI w)), (10, .int (nI j)), (11, .int (nI ((zz j).1 - (zz j).2.1)))]) (nx : zNx p l e s m below meth c Q g b ua ar co mo k cN sN 541) : W p l e room_1 s m #[Value.ref b] below meth c H locs c0 s0 Q (F0 m 228 ls []) := by
  obtain ⟨hx, hb, hr, hml, hown, hts0, hXs, hbl, hlocks, hgv⟩ := id C0
  have hown : s.vm.findClass RL = some m.cls := hown
  have hts : ∀ w ∈ wsL_law, w.before #[Value.ref b] s = true := fun w h => hts0 w (wsL_law_in w h)
  have hA : ∀ q : Nat, s.heap.size ≤ q → (fun q : Nat => s.heap.size ≤ q) q := fun _ h => h
  have hbA : ¬ (fun q : Nat => s.heap.size ≤ q) b := Nat.not_le.mpr hbl
  obtain ⟨i1, i2, i3, i4, i5, i6, i7, i8⟩ := id hI
  obtain ⟨t1, t2, t3⟩ := zInv_T (i5 j hj)
  refine lv_iload hx hb dL_law_228 (lv_at hl 8 rfl) ?_
  refine lv_iconst (v := nI 3) hx hb dL_law_230 (by decide) ?_
  refine z_icmp_ge (tgt := 282) hx hb dL_law_231 (by decide) (by omega) (by omega) (fun h1 => ?_) (fun h1 => ?_)
  · refine lv_iload hx hb dL_law_282 (lv_at hl 8 rfl) ?_
    refine lv_iconst (v := nI 3) hx hb dL_law_284 (by decide) ?_
    refine z_icmp_ne (tgt := 330) hx hb dL_law_285 (by decide) (by omega) (by omega) (fun h2 => ?_) (fun h2 => ?_)
    · exact L_d2 hst hL C0 hK hX (by omega) (by omega) hcR hsR hI hj hw hP hD hS (lv_sub hl [0, 1, 2, 3, 4, 5, 6, 7, 8, 9, 10] rfl) nx
    · refine lv_iload hx hb dL_law_288 (lv_at hl 10 rfl) ?_
      refine z_if_le (tgt := 330) hx hb dL_law_290 (by decide) (by omega) (fun h3 => ?_) (fun h3 => ?_)
      · exact L_d2 hst hL C0 hK hX (by omega) (by omega) hcR hsR hI hj hw hP hD hS (lv_sub hl [0, 1, 2, 3, 4, 5, 6, 7, 8, 9, 10] rfl) nx
      · refine lv_iload hx hb dL_law_293 (lv_at hl 5 rfl) ?_
        refine lv_bipush (v := nI 8) hx hb dL_law_295 (by decide) ?_
        refine z_icmp_ge (tgt := 330) hx hb dL_law_297 (by decide) (by omega) (by omega) (fun h4 => ?_) (fun h4 => ?_)
        · exact L_d2 hst hL C0 hK hX (by omega) (by omega) hcR hsR hI hj hw hP hD hS (lv_sub hl [0, 1, 2, 3, 4, 5, 6, 7, 8, 9, 10] rfl) nx
        · exact L_review hst hL C0 hK hX (by omega) (by omega) hcR hsR hI hj (by omega) h4 hP hD hS (lv_sub hl [0, 1, 2, 3, 4, 5, 6, 7, 9, 10] rfl) nx
  · exact L_pass hst hL C0 hK hX (by omega) (by omega) hcR hsR hI hj hP hD hS (lv_sub hl [0, 1, 2, 3, 4, 5, 6, 7, 9, 10] rfl) nx

set_option maxHeartbeats 4000000 in
set_option maxRecDepth 100000 in
theorem L_step  (hst : l.stackTraces = false) (hL : L ≤ 260) (C0 : lw_At p s m meth c b L xs) (hK : zK g s) (hX : zX (fun q : Nat => s.heap.size ≤ q) s s.heap) (hcN : c0 + 100 ≤ cN) (hsN : s0 + 700 ≤ sN) (hcR : cN ≤ room_1.cells) (hsR : sN ≤ room_1.slots) (hI : zTw cnt rows cs ms aa rr ff zz qq rv) (hk : k < 40) (hP : va_P g.1 vwCl (([(ua, .inr (1, [.ref ar, .int (nI cnt)])), (ar, .inl (g.2.2.1, 6, .inr (.inr (.inr (.inr rows))))), (co, .inl (g.2.1, 6, .inl cs)), (mo, .inl (g.2.1, 6, .inl ms))] ++ (zLs g cnt aa rr ff zz qq))) H) (hD : va_D (fun q : Nat => s.heap.size ≤ q) (([(ua, .inr (1, [.ref ar, .int (nI cnt)])), (ar, .inl (g.2.2.1, 6, .inr (.inr (.inr (.inr rows))))), (co, .inl (g.2.1, 6, .inl cs)), (mo, .inl (g.2.1, 6, .inl ms))] ++ (zLs g cnt aa rr ff zz qq)))) (hS : va_S (fun q : Nat => s.heap.size ≤ q) s.heap H locs) (hl : lv_has ls 14 [(0, .ref b), (1, .ref ua), (2, .ref co), (3, .ref mo), (4, .int (nI cnt)), (5, .int (nI rv)), (6, .int (nI k))]) (nx : zNx p l e s m below meth c Q g b ua ar co mo k cN sN 541) : W p l e room_1 s m #[Value.ref b] below meth c H locs c0 s0 Q (F0 m 34 ls []) := by
  obtain ⟨hx, hb, hr, hml, hown, hts0, hXs, hbl, hlocks, hgv⟩ := id C0
  have hown : s.vm.findClass RL = some m.cls := hown
  have hts : ∀ w ∈ wsL_law, w.before #[Value.ref b] s = true := fun w h => hts0 w (wsL_law_in w h)
  have hA : ∀ q : Nat, s.heap.size ≤ q → (fun q : Nat => s.heap.size ≤ q) q := fun _ h => h
  have hbA : ¬ (fun q : Nat => s.heap.size ≤ q) b := Nat.not_le.mpr hbl
  obtain ⟨i1, i2, i3, i4, i5, i6, i7, i8⟩ := id hI
  refine lv_aload_n hx hb dL_law_34 rfl (lv_at hl 0 rfl) ?_
  refine lv_iconst (v := nI 2) hx hb dL_law_35 (by decide) ?_
  refine lv_iload hx hb dL_law_36 (lv_at hl 6 rfl) ?_
  refine z_imul hx hb dL_law_38 ?_
  refine z_ai (wa := []) (wc := []) (wb := ([(ua, .inr (1, [.ref ar, .int (nI cnt)])), (ar, .inl (g.2.2.1, 6, .inr (.inr (.inr (.inr rows))))), (co, .inl (g.2.1, 6, .inl cs)), (mo, .inl (g.2.1, 6, .inl ms))] ++ (zLs g cnt aa rr ff zz qq))) (va_runS (As := [.ref b, .int (nI (2 * k))]) (rest := []) ⟨hx, hb, hml, hown, hts⟩ (c_cell l g b L xs (2 * k) (by omega) (by omega) H.size _ rfl) (va_cwS 2 hts gL_law_L_cell rfl rfl rfl (by decide +kernel) ⟨Nat.le_of_ble_eq_true rfl, Nat.le_of_ble_eq_true rfl⟩) (zpreC hK hXs hbl hbA hS) rfl rfl hl.1 rfl (lv_room (Nat.le_of_ble_eq_true rfl)) dL_law_39 ⟨by omega, by omega⟩) hP hD hS hA (fun x7 w1 H locs hq hP hD hS => ?_)
  obtain rfl := hq
  have hP : va_P g.1 vwCl (([(ua, .inr (1, [.ref ar, .int (nI cnt)])), (ar, .inl (g.2.2.1, 6, .inr (.inr (.inr (.inr rows))))), (co, .inl (g.2.1, 6, .inl cs)), (mo, .inl (g.2.1, 6, .inl ms))] ++ (zLs g cnt aa rr ff zz qq))) H := hP
  have hD : va_D (fun q : Nat => s.heap.size ≤ q) (([(ua, .inr (1, [.ref ar, .int (nI cnt)])), (ar, .inl (g.2.2.1, 6, .inr (.inr (.inr (.inr rows))))), (co, .inl (g.2.1, 6, .inl cs)), (mo, .inl (g.2.1, 6, .inl ms))] ++ (zLs g cnt aa rr ff zz qq))) := hD
  refine lv_istore (lv' := [(7, .int x7), (0, .ref b), (1, .ref ua), (2, .ref co), (3, .ref mo), (4, .int (nI cnt)), (5, .int (nI rv)), (6, .int (nI k))]) hx hb dL_law_42 hl (by decide) rfl (fun ls hl => ?_)
  refine lv_aload_n hx hb dL_law_44 rfl (lv_at hl 1 rfl) ?_
  refine lv_iconst (v := nI 2) hx hb dL_law_45 (by decide) ?_
  refine lv_iload hx hb dL_law_46 (lv_at hl 7 rfl) ?_
  refine z_imul hx hb dL_law_48 ?_
  refine lv_iconst (v := nI 1) hx hb dL_law_49 (by decide) ?_
  refine z_iadd hx hb dL_law_50 ?_
  refine z_ai (wa := []) (wc := []) (wb := ([(ua, .inr (1, [.ref ar, .int (nI cnt)])), (ar, .inl (g.2.2.1, 6, .inr (.inr (.inr (.inr rows))))), (co, .inl (g.2.1, 6, .inl cs)), (mo, .inl (g.2.1, 6, .inl ms))] ++ (zLs g cnt aa rr ff zz qq))) (va_runS (As := [.ref b, .int (nI (2 * k + 1))]) (rest := []) ⟨hx, hb, hml, hown, hts⟩ (c_cell l g b L xs (2 * k + 1) (by omega) (by omega) H.size _ rfl) (va_cwS 2 hts gL_law_L_cell rfl rfl rfl (by decide +kernel) ⟨Nat.le_of_ble_eq_true rfl, Nat.le_of_ble_eq_true rfl⟩) (zpreC hK hXs hbl hbA hS) rfl rfl hl.1 rfl (lv_room (Nat.le_of_ble_eq_true rfl)) dL_law_51 ⟨by omega, by omega⟩) hP hD hS hA (fun x8 w1 H locs hq hP hD hS => ?_)
  obtain rfl := hq
  have hP : va_P g.1 vwCl (([(ua, .inr (1, [.ref ar, .int (nI cnt)])), (ar, .inl (g.2.2.1, 6, .inr (.inr (.inr (.inr rows))))), (co, .inl (g.2.1, 6, .inl cs)), (mo, .inl (g.2.1, 6, .inl ms))] ++ (zLs g cnt aa rr ff zz qq))) H := hP
  have hD : va_D (fun q : Nat => s.heap.size ≤ q) (([(ua, .inr (1, [.ref ar, .int (nI cnt)])), (ar, .inl (g.2.2.1, 6, .inr (.inr (.inr (.inr rows))))), (co, .inl (g.2.1, 6, .inl cs)), (mo, .inl (g.2.1, 6, .inl ms))] ++ (zLs g cnt aa rr ff zz qq))) := hD
  refine lv_istore (lv' := [(8, .int x8), (7, .int x7), (0, .ref b), (1, .ref ua), (2, .ref co), (3, .ref mo), (4, .int (nI cnt)), (5, .int (nI rv)), (6, .int (nI k))]) hx hb dL_law_54 hl (by decide) rfl (fun ls hl => ?_)
  refine lv_iload hx hb dL_law_56 (lv_at hl 1 rfl) ?_
  refine lv_bipush (v := nI 8) hx hb dL_law_58 (by decide) ?_
  refine z_ai (wa := []) (wc := []) (wb := ([(ua, .inr (1, [.ref ar, .int (nI cnt)])), (ar, .inl (g.2.2.1, 6, .inr (.inr (.inr (.inr rows))))), (co, .inl (g.2.1, 6, .inl cs)), (mo, .inl (g.2.1, 6, .inl ms))] ++ (zLs g cnt aa rr ff zz qq))) (va_runS (As := [.int x7, .int (nI 8)]) (rest := []) ⟨hx, hb, hml, hown, hts⟩ (c_low l g x7 8 (by decide) (by decide) H.size _ rfl) (va_cwS 2 hts gL_law_L_low rfl rfl rfl (by decide +kernel) ⟨Nat.le_of_ble_eq_true rfl, Nat.le_of_ble_eq_true rfl⟩) (zpreS (wa := []) (wc := []) (wb := ([(ua, .inr (1, [.ref ar, .int (nI cnt)])), (ar, .inl (g.2.2.1, 6, .inr (.inr (.inr (.inr rows))))), (co, .inl (g.2.1, 6, .inl cs)), (mo, .inl (g.2.1, 6, .inl ms))] ++ (zLs g cnt aa rr ff zz qq))) hK hP hD) rfl rfl hl.1 rfl (lv_room (Nat.le_of_ble_eq_true rfl)) dL_law_60 ⟨by omega, by omega⟩) hP hD hS hA (fun r9 w1 H locs hq hP hD hS => ?_)
  obtain ⟨⟨w, hw, rfl⟩, rfl⟩ := hq
  have hP : va_P g.1 vwCl (([(ua, .inr (1, [.ref ar, .int (nI cnt)])), (ar, .inl (g.2.2.1, 6, .inr (.inr (.inr (.inr rows))))), (co, .inl (g.2.1, 6, .inl cs)), (mo, .inl (g.2.1, 6, .inl ms))] ++ (zLs g cnt aa rr ff zz qq))) H := hP
  have hD : va_D (fun q : Nat => s.heap.size ≤ q) (([(ua, .inr (1, [.ref ar, .int (nI cnt)])), (ar, .inl (g.2.2.1, 6, .inr (.inr (.inr (.inr rows))))), (co, .inl (g.2.1, 6, .inl cs)), (mo, .inl (g.2.1, 6, .inl ms))] ++ (zLs g cnt aa rr ff zz qq))) := hD
  refine lv_istore (lv' := [(9, .int (nI w)), (8, .int x8), (7, .int x7), (0, .ref b), (1, .ref ua), (2, .ref co), (3, .ref mo), (4, .int (nI cnt)), (5, .int (nI rv)), (6, .int (nI k))]) hx hb dL_law_63 hl (by decide) rfl (fun ls hl => ?_)
  refine lv_iload hx hb dL_law_65 (lv_at hl 7 rfl) ?_
  refine z_if_ne (tgt := 74) hx hb dL_law_67 (by decide) (by omega) (fun h0 => ?_) (fun h0 => ?_)
  · refine lv_iload hx hb dL_law_74 (lv_at hl 2 rfl) ?_
    refine lv_iconst (v := nI 4) hx hb dL_law_76 (by decide) ?_
    refine lv_ishr hx hb dL_law_77 ?_
    refine lv_topi (fun y1 _ => ?_)
    refine lv_iload hx hb dL_law_78 (lv_at hl 7 rfl) ?_
    refine z_ai (wa := []) (wc := []) (wb := ([(ua, .inr (1, [.ref ar, .int (nI cnt)])), (ar, .inl (g.2.2.1, 6, .inr (.inr (.inr (.inr rows))))), (co, .inl (g.2.1, 6, .inl cs)), (mo, .inl (g.2.1, 6, .inl ms))] ++ (zLs g cnt aa rr ff zz qq))) (va_runS (As := [.int y1, .int (nI cnt)]) (rest := []) ⟨hx, hb, hml, hown, hts⟩ (c_low l g y1 cnt (by omega) (by omega) H.size _ rfl) (va_cwS 2 hts gL_law_L_low rfl rfl rfl (by decide +kernel) ⟨Nat.le_of_ble_eq_true rfl, Nat.le_of_ble_eq_true rfl⟩) (zpreS (wa := []) (wc := []) (wb := ([(ua, .inr (1, [.ref ar, .int (nI cnt)])), (ar, .inl (g.2.2.1, 6, .inr (.inr (.inr (.inr rows))))), (co, .inl (g.2.1, 6, .inl cs)), (mo, .inl (g.2.1, 6, .inl ms))] ++ (zLs g cnt aa rr ff zz qq))) hK hP hD) rfl rfl hl.1 rfl (lv_room (Nat.le_of_ble_eq_true rfl)) dL_law_80 ⟨by omega, by omega⟩) hP hD hS hA (fun r9 w1 H locs hq hP hD hS => ?_)
    obtain ⟨⟨j, hj, rfl⟩, rfl⟩ := hq
    have hP : va_P g.1 vwCl (([(ua, .inr (1, [.ref ar, .int (nI cnt)])), (ar, .inl (g.2.2.1, 6, .inr (.inr (.inr (.inr rows))))), (co, .inl (g.2.1, 6, .inl cs)), (mo, .inl (g.2.1, 6, .inl ms))] ++ (zLs g cnt aa rr ff zz qq))) H := hP
    have hD : va_D (fun q : Nat => s.heap.size ≤ q) (([(ua, .inr (1, [.ref ar, .int (nI cnt)])), (ar, .inl (g.2.2.1, 6, .inr (.inr (.inr (.inr rows))))), (co, .inl (g.2.1, 6, .inl cs)), (mo, .inl (g.2.1, 6, .inl ms))] ++ (zLs g cnt aa rr ff zz qq))) := hD
    refine lv_istore (lv' := [(10, .int (nI j)), (9, .int (nI w)), (8, .int x8), (7, .int x7), (0, .ref b), (1, .ref ua), (2, .ref co), (3, .ref mo), (4, .int (nI cnt)), (5, .int (nI rv)), (6, .int (nI k))]) hx hb dL_law_83 hl (by decide) rfl (fun ls hl => ?_)
    refine lv_iload hx hb dL_law_85 (lv_at hl 8 rfl) ?_
    refine z_if_ne (tgt := 94) hx hb dL_law_87 (by decide) (by omega) (fun h1 => ?_) (fun h1 => ?_)
    · obtain ⟨t1, t2, t3⟩ := zInv_T (i5 j hj)
      refine lv_aload_n hx hb dL_law_94 rfl (lv_at hl 5 rfl) ?_
      refine lv_iload hx hb dL_law_95 (lv_at hl 0 rfl) ?_
      refine z_ai0 (wc := ([(ua, .inr (1, [.ref ar, .int (nI cnt)])), (ar, .inl (g.2.2.1, 6, .inr (.inr (.inr (.inr rows))))), (co, .inl (g.2.1, 6, .inl cs)), (mo, .inl (g.2.1, 6, .inl ms))] ++ (zLs g cnt aa rr ff zz qq))) (va_runV (As := [.int (nI j)]) (rest := []) ⟨hx, hb, hml, hown, hts⟩ (K_toCome l hst g ua ar co mo cnt rows cs ms aa rr ff zz qq j hj hI H.size _ rfl) (cwV 1 hts gL_law_X1_toCome rfl rfl rfl (by decide +kernel) ⟨Nat.le_of_ble_eq_true rfl, Nat.le_of_ble_eq_true rfl⟩) (zpreXV0 (wc := ([(ua, .inr (1, [.ref ar, .int (nI cnt)])), (ar, .inl (g.2.2.1, 6, .inr (.inr (.inr (.inr rows))))), (co, .inl (g.2.1, 6, .inl cs)), (mo, .inl (g.2.1, 6, .inl ms))] ++ (zLs g cnt aa rr ff zz qq))) (q0 := 0) (ci := 1) (T := TX1) (N := 2) hK hP hD hS hA hX rfl rfl) rfl rfl hl.1 rfl (lv_room (Nat.le_of_ble_eq_true rfl)) dL_law_97 ⟨by omega, by omega⟩) hP hD hS hA (fun r9 w1 H locs hq hP hD hS => ?_)
      obtain ⟨rfl, rfl⟩ := hq
      have hP : va_P g.1 vwCl (([(ua, .inr (1, [.ref ar, .int (nI cnt)])), (ar, .inl (g.2.2.1, 6, .inr (.inr (.inr (.inr rows))))), (co, .inl (g.2.1, 6, .inl cs)), (mo, .inl (g.2.1, 6, .inl ms))] ++ (zLs g cnt aa rr ff zz qq))) H := hP
      have hD : va_D (fun q : Nat => s.heap.size ≤ q) (([(ua, .inr (1, [.ref ar, .int (nI cnt)])), (ar, .inl (g.2.2.1, 6, .inr (.inr (.inr (.inr rows))))), (co, .inl (g.2.1, 6, .inl cs)), (mo, .inl (g.2.1, 6, .inl ms))] ++ (zLs g cnt aa rr ff zz qq))) := hD
      refine lv_istore (lv' := [(11, .int (nI ((zz j).1 - (zz j).2.1))), (10, .int (nI j)), (9, .int (nI w)), (8, .int x8), (7, .int x7), (0, .ref b), (1, .ref ua), (2, .ref co), (3, .ref mo), (4, .int (nI cnt)), (5, .int (nI rv)), (6, .int (nI k))]) hx hb dL_law_100 hl (by decide) rfl (fun ls hl => ?_)
      refine lv_iload hx hb dL_law_102 (lv_at hl 9 rfl) ?_
      refine z_if_eq (tgt := 119) hx hb dL_law_104 (by decide) (by omega) (fun h2 => ?_) (fun h2 => ?_)
      · exact absurd h2 h0
      · refine lv_iload hx hb dL_law_107 (lv_at hl 2 rfl) ?_
        refine z_if_ne (tgt := 228) hx hb dL_law_109 (by decide) (by omega) (fun h3 => ?_) (fun h3 => ?_)
        · exact L_d1 hst hL C0 hK hX (by omega) (by omega) hcR hsR hI hj hw hP hD hS (lv_sub hl [5, 6, 7, 8, 9, 10, 11, 3, 2, 1, 0] rfl) nx
        · refine lv_iload hx hb dL_law_112 (lv_at hl 9 rfl) ?_
          refine lv_bipush (v := nI 6) hx hb dL_law_114 (by decide) ?_
          refine z_icmp_ge (tgt := 228) hx hb dL_law_116 (by decide) (by omega) (by omega) (fun h6 => ?_) (fun h6 => ?_)
          · exact L_d1 hst hL C0 hK hX (by omega) (by omega) hcR hsR hI hj hw hP hD hS (lv_sub hl [5, 6, 7, 8, 9, 10, 11, 3, 2, 1, 0] rfl) nx
          · exact L_add hst hL C0 hK hX (by omega) (by omega) hcR hsR hI h6 hP hD hS (lv_sub hl [5, 6, 7, 8, 9, 10, 11, 4, 3] rfl) nx
    · exact absurd h1 h0
  · refine lv_iconst (v := nI 0) hx hb dL_law_70 (by decide) ?_
    refine lv_goto (tgt := 83) hx hb dL_law_71 (by decide) ?_
    refine lv_istore (lv' := [(10, .int (nI 0)), (9, .int (nI w)), (8, .int x8), (7, .int x7), (0, .ref b), (1, .ref ua), (2, .ref co), (3, .ref mo), (4, .int (nI cnt)), (5, .int (nI rv)), (6, .int (nI k))]) hx hb dL_law_83 hl (by decide) rfl (fun ls hl => ?_)
    refine lv_iload hx hb dL_law_85 (lv_at hl 8 rfl) ?_
    refine z_if_ne (tgt := 94) hx hb dL_law_87 (by decide) (by omega) (fun h1 => ?_) (fun h1 => ?_)
    · exact absurd h0 h1
    · refine lv_iconst (v := nI 0) hx hb dL_law_90 (by decide) ?_
      refine lv_goto (tgt := 100) hx hb dL_law_91 (by decide) ?_
      refine lv_istore (lv' := [(11, .int (nI 0)), (10, .int (nI 0)), (9, .int (nI w)), (8, .int x8), (7, .int x7), (0, .ref b), (1, .ref ua), (2, .ref co), (3, .ref mo), (4, .int (nI cnt)), (5, .int (nI rv)), (6, .int (nI k))]) hx hb dL_law_100 hl (by decide) rfl (fun ls hl => ?_)
      refine lv_iload hx hb dL_law_102 (lv_at hl 9 rfl) ?_
      refine z_if_eq (tgt := 119) hx hb dL_law_104 (by decide) (by omega) (fun h2 => ?_) (fun h2 => ?_)
      · exact L_add hst hL C0 hK hX (by omega) (by omega) hcR hsR hI (by omega) hP hD hS (lv_sub hl [5, 6, 7, 8, 9, 10, 11, 4, 3] rfl) nx
      · exact absurd h0 h2

end ZLW
