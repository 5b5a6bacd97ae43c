/-! the law: its cases -/
section ZLX
variable {p : Program} {l : Launch} {e : Env} {s : State} {m : MethodId} {below : List Frame} {meth : Method} {c : Code} {b L : Nat} {xs : Nat → Int32} {g : zG} {mo oa ua ar i cells slots c1 s1 : Nat} {ad : zAd} {Q : State → Prop} {S : zSt} {th : Int32} {o : Nat → Int64} {H : Heap} {locs : List Loc} {ls : Array Slot}
set_option maxHeartbeats 4000000 in
set_option maxRecDepth 100000 in
theorem L_toCome (hst : l.stackTraces = false) (hL : L ≤ 4096) (C0 : lw_At p s m meth c b L xs) (hK : zK g s) (hX : zX (fun q : Nat => s.heap.size ≤ q) s s.heap) (hi : i + 8 ≤ L) (hc0 : cells + 11 ≤ room_1.cells) (hs0 : slots + 301 ≤ room_1.slots) (hI : zI S) (hP : va_P g.1 vwCl (zWm g mo ad th S.1 S.2.2.2.2.2.2.2 ++ zWc g oa ua ar o S) H) (hD : va_D (fun q : Nat => s.heap.size ≤ q) (zWm g mo ad th S.1 S.2.2.2.2.2.2.2 ++ zWc g oa ua ar o S)) (hS : va_S (fun q : Nat => s.heap.size ≤ q) s.heap H locs) (hl : lv_has ls 7 [(0, .ref b), (1, .ref ua), (2, .ref mo), (3, .ref oa), (4, .int (nI i))]) (kk : zNx p l e s m below meth c Q g mo ad oa ua ar b i cells slots) : W p l e room_1 s m #[Value.ref b] below meth c H locs cells slots Q (F0 m 596 ls []) := by
  obtain ⟨hx, hb, hr, hml, hown, hts0, hXs, hbl, hlocks, hgv⟩ := id C0
  have hown : s.vm.findClass RL = some m.cls := hown
  have hts : ∀ w ∈ wsL_law, w.before #[Value.ref b] s = true := fun w h => hts0 w (wsL_law_in w h)
  have hA : ∀ q : Nat, s.heap.size ≤ q → (fun q : Nat => s.heap.size ≤ q) q := fun _ h => h
  have hbA : ¬ (fun q : Nat => s.heap.size ≤ q) b := Nat.not_le.mpr hbl
  refine lv_aload_n hx hb dL_law_596 rfl (lv_at hl 1 rfl) ?_
  refine lv_aload_n hx hb dL_law_597 rfl (lv_at hl 0 rfl) ?_
  refine lv_iload hx hb dL_law_598 (lv_at hl 4 rfl) ?_
  refine lv_iconst (v := nI 1) hx hb dL_law_600 (by decide) ?_
  refine z_iadd hx hb dL_law_601 ?_
  refine z_sld hx hb hXs hbl hbA hS (j := i + 1) (by omega) hL dL_law_602 ?_
  refine lv_aload_n hx hb dL_law_603 rfl (lv_at hl 3 rfl) ?_
  have hP : va_P g.1 vwCl (zWm g mo ad th S.1 S.2.2.2.2.2.2.2 ++ zWc g oa ua ar o S ++ []) H := by rw [List.append_nil]; exact hP
  have hD : va_D (fun q : Nat => s.heap.size ≤ q) (zWm g mo ad th S.1 S.2.2.2.2.2.2.2 ++ zWc g oa ua ar o S ++ []) := by rw [List.append_nil]; exact hD
  refine z_ai (wa := zWm g mo ad th S.1 S.2.2.2.2.2.2.2) (wc := zWc g oa ua ar o S) (wb := []) (vx_runSW (As := [.ref ua, .int (xs (i + 1)), .ref oa]) (rest := []) ⟨hx, hb, hml, hown, hts⟩ (C_toCome l hst g oa ua ar o S (xs (i + 1)) hI H.size _ rfl) (vx_cwSW 3 hts gL_law_L_toCome rfl rfl rfl (by decide +kernel) ⟨Nat.le_of_ble_eq_true rfl, Nat.le_of_ble_eq_true rfl⟩) (zpreXS (wa := zWm g mo ad th S.1 S.2.2.2.2.2.2.2) (wc := zWc g oa ua ar o S) (wb := []) hK hP hD hS hA hX) rfl rfl hl.1 rfl (lv_room (Nat.le_of_ble_eq_true rfl)) dL_law_604 ⟨by omega, by omega⟩) hP hD hS hA (fun r wC H locs hqC hP hD hS => ?_)
  rw [List.append_nil] at hP hD
  refine lv_istore (lv' := [(5, .int r), (0, .ref b), (1, .ref ua), (2, .ref mo), (3, .ref oa), (4, .int (nI i))]) hx hb dL_law_607 hl (by decide) rfl (fun ls hl => ?_)
  refine lv_aload_n hx hb dL_law_609 rfl (lv_at hl 3 rfl) ?_
  refine lv_aload_n hx hb dL_law_610 rfl (lv_at hl 1 rfl) ?_
  refine lv_iload hx hb dL_law_611 (lv_at hl 5 rfl) ?_
  refine lv_iconst (v := nI 1) hx hb dL_law_613 (by decide) ?_
  refine z_iadd hx hb dL_law_614 ?_
  refine z_sld hx hb hXs hbl hbA hS (j := i + 1) (by omega) hL dL_law_615 ?_
  refine z_ai (wa := []) (wc := zWm g mo ad th S.1 S.2.2.2.2.2.2.2) (wb := wC) (va_runV (As := [.int (xs (i + 1))]) (rest := []) ⟨hx, hb, hml, hown, hts⟩ (M_toCome l g mo ad th S (xs (i + 1)) hI H.size _ rfl) (cwV 1 hts gL_law_X2_toCome rfl rfl rfl (by decide +kernel) ⟨Nat.le_of_ble_eq_true rfl, Nat.le_of_ble_eq_true rfl⟩) (zpreV (wa := []) (wc := zWm g mo ad th S.1 S.2.2.2.2.2.2.2) (wb := wC) (q0 := 0) (ci := 2) (T := TX2) (N := 13) hK hP hD rfl rfl) rfl rfl hl.1 rfl (lv_room (Nat.le_of_ble_eq_true rfl)) dL_law_616 ⟨by omega, by omega⟩) hP hD hS hA (fun q wM H locs hqM hP hD hS => ?_)
  exact L_tail C0 hK (z_comb dt_toCome hI hqC hqM) hP hD hS hl kk (by omega) (by omega) hc0 hs0 dL_law_619 dL_law_621 dL_law_622 dL_law_625 dL_law_627 dL_law_632 dL_law_634 dL_law_637 dL_law_638 dL_law_639 dL_law_640 dL_law_642 dL_law_643 dL_law_644 dL_law_649 (by decide)

set_option maxHeartbeats 4000000 in
set_option maxRecDepth 100000 in
theorem L_payment (hst : l.stackTraces = false) (hL : L ≤ 4096) (C0 : lw_At p s m meth c b L xs) (hK : zK g s) (hX : zX (fun q : Nat => s.heap.size ≤ q) s s.heap) (hi : i + 8 ≤ L) (hc0 : cells + 11 ≤ room_1.cells) (hs0 : slots + 301 ≤ room_1.slots) (hI : zI S) (hP : va_P g.1 vwCl (zWm g mo ad th S.1 S.2.2.2.2.2.2.2 ++ zWc g oa ua ar o S) H) (hD : va_D (fun q : Nat => s.heap.size ≤ q) (zWm g mo ad th S.1 S.2.2.2.2.2.2.2 ++ zWc g oa ua ar o S)) (hS : va_S (fun q : Nat => s.heap.size ≤ q) s.heap H locs) (hl : lv_has ls 7 [(0, .ref b), (1, .ref ua), (2, .ref mo), (3, .ref oa), (4, .int (nI i))]) (kk : zNx p l e s m below meth c Q g mo ad oa ua ar b i cells slots) : W p l e room_1 s m #[Value.ref b] below meth c H locs cells slots Q (F0 m 652 ls []) := by
  obtain ⟨hx, hb, hr, hml, hown, hts0, hXs, hbl, hlocks, hgv⟩ := id C0
  have hown : s.vm.findClass RL = some m.cls := hown
  have hts : ∀ w ∈ wsL_law, w.before #[Value.ref b] s = true := fun w h => hts0 w (wsL_law_in w h)
  have hA : ∀ q : Nat, s.heap.size ≤ q → (fun q : Nat => s.heap.size ≤ q) q := fun _ h => h
  have hbA : ¬ (fun q : Nat => s.heap.size ≤ q) b := Nat.not_le.mpr hbl
  refine lv_aload_n hx hb dL_law_652 rfl (lv_at hl 1 rfl) ?_
  refine lv_aload_n hx hb dL_law_653 rfl (lv_at hl 0 rfl) ?_
  refine lv_iload hx hb dL_law_654 (lv_at hl 4 rfl) ?_
  refine lv_iconst (v := nI 1) hx hb dL_law_656 (by decide) ?_
  refine z_iadd hx hb dL_law_657 ?_
  refine z_sld hx hb hXs hbl hbA hS (j := i + 1) (by omega) hL dL_law_658 ?_
  refine lv_aload_n hx hb dL_law_659 rfl (lv_at hl 0 rfl) ?_
  refine lv_iload hx hb dL_law_660 (lv_at hl 4 rfl) ?_
  refine lv_iconst (v := nI 2) hx hb dL_law_662 (by decide) ?_
  refine z_iadd hx hb dL_law_663 ?_
  refine z_sld hx hb hXs hbl hbA hS (j := i + 2) (by omega) hL dL_law_664 ?_
  refine lv_aload_n hx hb dL_law_665 rfl (lv_at hl 3 rfl) ?_
  have hP : va_P g.1 vwCl (zWm g mo ad th S.1 S.2.2.2.2.2.2.2 ++ zWc g oa ua ar o S ++ []) H := by rw [List.append_nil]; exact hP
  have hD : va_D (fun q : Nat => s.heap.size ≤ q) (zWm g mo ad th S.1 S.2.2.2.2.2.2.2 ++ zWc g oa ua ar o S ++ []) := by rw [List.append_nil]; exact hD
  refine z_ai (wa := zWm g mo ad th S.1 S.2.2.2.2.2.2.2) (wc := zWc g oa ua ar o S) (wb := []) (vx_runSW (As := [.ref ua, .int (xs (i + 1)), .int (xs (i + 2)), .ref oa]) (rest := []) ⟨hx, hb, hml, hown, hts⟩ (C_payment l hst g oa ua ar o S (xs (i + 1)) (xs (i + 2)) hI H.size _ rfl) (vx_cwSW 4 hts gL_law_L_payment rfl rfl rfl (by decide +kernel) ⟨Nat.le_of_ble_eq_true rfl, Nat.le_of_ble_eq_true rfl⟩) (zpreXS (wa := zWm g mo ad th S.1 S.2.2.2.2.2.2.2) (wc := zWc g oa ua ar o S) (wb := []) hK hP hD hS hA hX) rfl rfl hl.1 rfl (lv_room (Nat.le_of_ble_eq_true rfl)) dL_law_666 ⟨by omega, by omega⟩) hP hD hS hA (fun r wC H locs hqC hP hD hS => ?_)
  rw [List.append_nil] at hP hD
  refine lv_istore (lv' := [(5, .int r), (0, .ref b), (1, .ref ua), (2, .ref mo), (3, .ref oa), (4, .int (nI i))]) hx hb dL_law_669 hl (by decide) rfl (fun ls hl => ?_)
  refine lv_aload_n hx hb dL_law_671 rfl (lv_at hl 3 rfl) ?_
  refine lv_aload_n hx hb dL_law_672 rfl (lv_at hl 1 rfl) ?_
  refine lv_iload hx hb dL_law_673 (lv_at hl 5 rfl) ?_
  refine lv_iconst (v := nI 1) hx hb dL_law_675 (by decide) ?_
  refine z_iadd hx hb dL_law_676 ?_
  refine z_sld hx hb hXs hbl hbA hS (j := i + 1) (by omega) hL dL_law_677 ?_
  refine lv_aload_n hx hb dL_law_678 rfl (lv_at hl 1 rfl) ?_
  refine lv_iload hx hb dL_law_679 (lv_at hl 5 rfl) ?_
  refine lv_iconst (v := nI 2) hx hb dL_law_681 (by decide) ?_
  refine z_iadd hx hb dL_law_682 ?_
  refine z_sld hx hb hXs hbl hbA hS (j := i + 2) (by omega) hL dL_law_683 ?_
  refine z_ai (wa := []) (wc := zWm g mo ad th S.1 S.2.2.2.2.2.2.2) (wb := wC) (va_runV (As := [.int (xs (i + 1)), .int (xs (i + 2))]) (rest := []) ⟨hx, hb, hml, hown, hts⟩ (M_payment l g mo ad th S (xs (i + 1)) (xs (i + 2)) hI H.size _ rfl) (cwV 2 hts gL_law_X2_payment rfl rfl rfl (by decide +kernel) ⟨Nat.le_of_ble_eq_true rfl, Nat.le_of_ble_eq_true rfl⟩) (zpreV (wa := []) (wc := zWm g mo ad th S.1 S.2.2.2.2.2.2.2) (wb := wC) (q0 := 0) (ci := 2) (T := TX2) (N := 13) hK hP hD rfl rfl) rfl rfl hl.1 rfl (lv_room (Nat.le_of_ble_eq_true rfl)) dL_law_684 ⟨by omega, by omega⟩) hP hD hS hA (fun q wM H locs hqM hP hD hS => ?_)
  exact L_tail C0 hK (z_comb (dt_payment (xs (i + 2))) hI hqC hqM) hP hD hS hl kk (by omega) (by omega) hc0 hs0 dL_law_687 dL_law_689 dL_law_690 dL_law_693 dL_law_695 dL_law_700 dL_law_702 dL_law_705 dL_law_706 dL_law_707 dL_law_708 dL_law_710 dL_law_711 dL_law_712 dL_law_717 (by decide)

set_option maxHeartbeats 4000000 in
set_option maxRecDepth 100000 in
theorem L_debt (hst : l.stackTraces = false) (hL : L ≤ 4096) (C0 : lw_At p s m meth c b L xs) (hK : zK g s) (hX : zX (fun q : Nat => s.heap.size ≤ q) s s.heap) (hi : i + 8 ≤ L) (hc0 : cells + 11 ≤ room_1.cells) (hs0 : slots + 301 ≤ room_1.slots) (hI : zI S) (hP : va_P g.1 vwCl (zWm g mo ad th S.1 S.2.2.2.2.2.2.2 ++ zWc g oa ua ar o S) H) (hD : va_D (fun q : Nat => s.heap.size ≤ q) (zWm g mo ad th S.1 S.2.2.2.2.2.2.2 ++ zWc g oa ua ar o S)) (hS : va_S (fun q : Nat => s.heap.size ≤ q) s.heap H locs) (hl : lv_has ls 7 [(0, .ref b), (1, .ref ua), (2, .ref mo), (3, .ref oa), (4, .int (nI i))]) (kk : zNx p l e s m below meth c Q g mo ad oa ua ar b i cells slots) : W p l e room_1 s m #[Value.ref b] below meth c H locs cells slots Q (F0 m 720 ls []) := by
  obtain ⟨hx, hb, hr, hml, hown, hts0, hXs, hbl, hlocks, hgv⟩ := id C0
  have hown : s.vm.findClass RL = some m.cls := hown
  have hts : ∀ w ∈ wsL_law, w.before #[Value.ref b] s = true := fun w h => hts0 w (wsL_law_in w h)
  have hA : ∀ q : Nat, s.heap.size ≤ q → (fun q : Nat => s.heap.size ≤ q) q := fun _ h => h
  have hbA : ¬ (fun q : Nat => s.heap.size ≤ q) b := Nat.not_le.mpr hbl
  refine lv_aload_n hx hb dL_law_720 rfl (lv_at hl 1 rfl) ?_
  refine lv_aload_n hx hb dL_law_721 rfl (lv_at hl 0 rfl) ?_
  refine lv_iload hx hb dL_law_722 (lv_at hl 4 rfl) ?_
  refine lv_iconst (v := nI 1) hx hb dL_law_724 (by decide) ?_
  refine z_iadd hx hb dL_law_725 ?_
  refine z_sld hx hb hXs hbl hbA hS (j := i + 1) (by omega) hL dL_law_726 ?_
  refine lv_aload_n hx hb dL_law_727 rfl (lv_at hl 3 rfl) ?_
  have hP : va_P g.1 vwCl (zWm g mo ad th S.1 S.2.2.2.2.2.2.2 ++ zWc g oa ua ar o S ++ []) H := by rw [List.append_nil]; exact hP
  have hD : va_D (fun q : Nat => s.heap.size ≤ q) (zWm g mo ad th S.1 S.2.2.2.2.2.2.2 ++ zWc g oa ua ar o S ++ []) := by rw [List.append_nil]; exact hD
  refine z_ai (wa := zWm g mo ad th S.1 S.2.2.2.2.2.2.2) (wc := zWc g oa ua ar o S) (wb := []) (vx_runSW (As := [.ref ua, .int (xs (i + 1)), .ref oa]) (rest := []) ⟨hx, hb, hml, hown, hts⟩ (C_debt l hst g oa ua ar o S (xs (i + 1)) hI H.size _ rfl) (vx_cwSW 3 hts gL_law_L_debt rfl rfl rfl (by decide +kernel) ⟨Nat.le_of_ble_eq_true rfl, Nat.le_of_ble_eq_true rfl⟩) (zpreXS (wa := zWm g mo ad th S.1 S.2.2.2.2.2.2.2) (wc := zWc g oa ua ar o S) (wb := []) hK hP hD hS hA hX) rfl rfl hl.1 rfl (lv_room (Nat.le_of_ble_eq_true rfl)) dL_law_728 ⟨by omega, by omega⟩) hP hD hS hA (fun r wC H locs hqC hP hD hS => ?_)
  rw [List.append_nil] at hP hD
  refine lv_istore (lv' := [(5, .int r), (0, .ref b), (1, .ref ua), (2, .ref mo), (3, .ref oa), (4, .int (nI i))]) hx hb dL_law_731 hl (by decide) rfl (fun ls hl => ?_)
  refine lv_aload_n hx hb dL_law_733 rfl (lv_at hl 3 rfl) ?_
  refine lv_aload_n hx hb dL_law_734 rfl (lv_at hl 1 rfl) ?_
  refine lv_iload hx hb dL_law_735 (lv_at hl 5 rfl) ?_
  refine lv_iconst (v := nI 1) hx hb dL_law_737 (by decide) ?_
  refine z_iadd hx hb dL_law_738 ?_
  refine z_sld hx hb hXs hbl hbA hS (j := i + 1) (by omega) hL dL_law_739 ?_
  refine z_ai (wa := []) (wc := zWm g mo ad th S.1 S.2.2.2.2.2.2.2) (wb := wC) (va_runV (As := [.int (xs (i + 1))]) (rest := []) ⟨hx, hb, hml, hown, hts⟩ (M_debt l g mo ad th S (xs (i + 1)) hI H.size _ rfl) (cwV 1 hts gL_law_X2_debt rfl rfl rfl (by decide +kernel) ⟨Nat.le_of_ble_eq_true rfl, Nat.le_of_ble_eq_true rfl⟩) (zpreV (wa := []) (wc := zWm g mo ad th S.1 S.2.2.2.2.2.2.2) (wb := wC) (q0 := 0) (ci := 2) (T := TX2) (N := 13) hK hP hD rfl rfl) rfl rfl hl.1 rfl (lv_room (Nat.le_of_ble_eq_true rfl)) dL_law_740 ⟨by omega, by omega⟩) hP hD hS hA (fun q wM H locs hqM hP hD hS => ?_)
  exact L_tail C0 hK (z_comb dt_debt hI hqC hqM) hP hD hS hl kk (by omega) (by omega) hc0 hs0 dL_law_743 dL_law_745 dL_law_746 dL_law_749 dL_law_751 dL_law_756 dL_law_758 dL_law_761 dL_law_762 dL_law_763 dL_law_764 dL_law_766 dL_law_767 dL_law_768 dL_law_773 (by decide)

set_option maxHeartbeats 4000000 in
set_option maxRecDepth 100000 in
theorem L_debtByWorth (hst : l.stackTraces = false) (hL : L ≤ 4096) (C0 : lw_At p s m meth c b L xs) (hK : zK g s) (hX : zX (fun q : Nat => s.heap.size ≤ q) s s.heap) (hi : i + 8 ≤ L) (hc0 : cells + 11 ≤ room_1.cells) (hs0 : slots + 301 ≤ room_1.slots) (hI : zI S) (hP : va_P g.1 vwCl (zWm g mo ad th S.1 S.2.2.2.2.2.2.2 ++ zWc g oa ua ar o S) H) (hD : va_D (fun q : Nat => s.heap.size ≤ q) (zWm g mo ad th S.1 S.2.2.2.2.2.2.2 ++ zWc g oa ua ar o S)) (hS : va_S (fun q : Nat => s.heap.size ≤ q) s.heap H locs) (hl : lv_has ls 7 [(0, .ref b), (1, .ref ua), (2, .ref mo), (3, .ref oa), (4, .int (nI i))]) (kk : zNx p l e s m below meth c Q g mo ad oa ua ar b i cells slots) : W p l e room_1 s m #[Value.ref b] below meth c H locs cells slots Q (F0 m 776 ls []) := by
  obtain ⟨hx, hb, hr, hml, hown, hts0, hXs, hbl, hlocks, hgv⟩ := id C0
  have hown : s.vm.findClass RL = some m.cls := hown
  have hts : ∀ w ∈ wsL_law, w.before #[Value.ref b] s = true := fun w h => hts0 w (wsL_law_in w h)
  have hA : ∀ q : Nat, s.heap.size ≤ q → (fun q : Nat => s.heap.size ≤ q) q := fun _ h => h
  have hbA : ¬ (fun q : Nat => s.heap.size ≤ q) b := Nat.not_le.mpr hbl
  refine lv_aload_n hx hb dL_law_776 rfl (lv_at hl 1 rfl) ?_
  refine lv_aload_n hx hb dL_law_777 rfl (lv_at hl 0 rfl) ?_
  refine lv_iload hx hb dL_law_778 (lv_at hl 4 rfl) ?_
  refine lv_iconst (v := nI 1) hx hb dL_law_780 (by decide) ?_
  refine z_iadd hx hb dL_law_781 ?_
  refine z_sld hx hb hXs hbl hbA hS (j := i + 1) (by omega) hL dL_law_782 ?_
  refine lv_aload_n hx hb dL_law_783 rfl (lv_at hl 3 rfl) ?_
  have hP : va_P g.1 vwCl (zWm g mo ad th S.1 S.2.2.2.2.2.2.2 ++ zWc g oa ua ar o S ++ []) H := by rw [List.append_nil]; exact hP
  have hD : va_D (fun q : Nat => s.heap.size ≤ q) (zWm g mo ad th S.1 S.2.2.2.2.2.2.2 ++ zWc g oa ua ar o S ++ []) := by rw [List.append_nil]; exact hD
  refine z_ai (wa := zWm g mo ad th S.1 S.2.2.2.2.2.2.2) (wc := zWc g oa ua ar o S) (wb := []) (vx_runSW (As := [.ref ua, .int (xs (i + 1)), .ref oa]) (rest := []) ⟨hx, hb, hml, hown, hts⟩ (C_debtByWorth l hst g oa ua ar o S (xs (i + 1)) hI H.size _ rfl) (vx_cwSW 3 hts gL_law_L_debtByWorth rfl rfl rfl (by decide +kernel) ⟨Nat.le_of_ble_eq_true rfl, Nat.le_of_ble_eq_true rfl⟩) (zpreXS (wa := zWm g mo ad th S.1 S.2.2.2.2.2.2.2) (wc := zWc g oa ua ar o S) (wb := []) hK hP hD hS hA hX) rfl rfl hl.1 rfl (lv_room (Nat.le_of_ble_eq_true rfl)) dL_law_784 ⟨by omega, by omega⟩) hP hD hS hA (fun r wC H locs hqC hP hD hS => ?_)
  rw [List.append_nil] at hP hD
  refine lv_istore (lv' := [(5, .int r), (0, .ref b), (1, .ref ua), (2, .ref mo), (3, .ref oa), (4, .int (nI i))]) hx hb dL_law_787 hl (by decide) rfl (fun ls hl => ?_)
  refine lv_aload_n hx hb dL_law_789 rfl (lv_at hl 3 rfl) ?_
  refine lv_aload_n hx hb dL_law_790 rfl (lv_at hl 1 rfl) ?_
  refine lv_iload hx hb dL_law_791 (lv_at hl 5 rfl) ?_
  refine lv_iconst (v := nI 1) hx hb dL_law_793 (by decide) ?_
  refine z_iadd hx hb dL_law_794 ?_
  refine z_sld hx hb hXs hbl hbA hS (j := i + 1) (by omega) hL dL_law_795 ?_
  refine z_ai (wa := []) (wc := zWm g mo ad th S.1 S.2.2.2.2.2.2.2) (wb := wC) (va_runV (As := [.int (xs (i + 1))]) (rest := []) ⟨hx, hb, hml, hown, hts⟩ (M_debtByWorth l g mo ad th S (xs (i + 1)) hI H.size _ rfl) (cwV 1 hts gL_law_X2_debtByWorth rfl rfl rfl (by decide +kernel) ⟨Nat.le_of_ble_eq_true rfl, Nat.le_of_ble_eq_true rfl⟩) (zpreV (wa := []) (wc := zWm g mo ad th S.1 S.2.2.2.2.2.2.2) (wb := wC) (q0 := 0) (ci := 2) (T := TX2) (N := 13) hK hP hD rfl rfl) rfl rfl hl.1 rfl (lv_room (Nat.le_of_ble_eq_true rfl)) dL_law_796 ⟨by omega, by omega⟩) hP hD hS hA (fun q wM H locs hqM hP hD hS => ?_)
  exact L_tail C0 hK (z_comb dt_debtByWorth hI hqC hqM) hP hD hS hl kk (by omega) (by omega) hc0 hs0 dL_law_799 dL_law_801 dL_law_802 dL_law_805 dL_law_807 dL_law_812 dL_law_814 dL_law_817 dL_law_818 dL_law_819 dL_law_820 dL_law_822 dL_law_823 dL_law_824 dL_law_829 (by decide)

set_option maxHeartbeats 4000000 in
set_option maxRecDepth 100000 in
theorem L_right (hst : l.stackTraces = false) (hL : L ≤ 4096) (C0 : lw_At p s m meth c b L xs) (hK : zK g s) (hX : zX (fun q : Nat => s.heap.size ≤ q) s s.heap) (hi : i + 8 ≤ L) (hc0 : cells + 11 ≤ room_1.cells) (hs0 : slots + 301 ≤ room_1.slots) (hI : zI S) (hP : va_P g.1 vwCl (zWm g mo ad th S.1 S.2.2.2.2.2.2.2 ++ zWc g oa ua ar o S) H) (hD : va_D (fun q : Nat => s.heap.size ≤ q) (zWm g mo ad th S.1 S.2.2.2.2.2.2.2 ++ zWc g oa ua ar o S)) (hS : va_S (fun q : Nat => s.heap.size ≤ q) s.heap H locs) (hl : lv_has ls 7 [(0, .ref b), (1, .ref ua), (2, .ref mo), (3, .ref oa), (4, .int (nI i))]) (kk : zNx p l e s m below meth c Q g mo ad oa ua ar b i cells slots) : W p l e room_1 s m #[Value.ref b] below meth c H locs cells slots Q (F0 m 832 ls []) := by
  obtain ⟨hx, hb, hr, hml, hown, hts0, hXs, hbl, hlocks, hgv⟩ := id C0
  have hown : s.vm.findClass RL = some m.cls := hown
  have hts : ∀ w ∈ wsL_law, w.before #[Value.ref b] s = true := fun w h => hts0 w (wsL_law_in w h)
  have hA : ∀ q : Nat, s.heap.size ≤ q → (fun q : Nat => s.heap.size ≤ q) q := fun _ h => h
  have hbA : ¬ (fun q : Nat => s.heap.size ≤ q) b := Nat.not_le.mpr hbl
  refine lv_aload_n hx hb dL_law_832 rfl (lv_at hl 1 rfl) ?_
  refine lv_aload_n hx hb dL_law_833 rfl (lv_at hl 0 rfl) ?_
  refine lv_iload hx hb dL_law_834 (lv_at hl 4 rfl) ?_
  refine lv_iconst (v := nI 1) hx hb dL_law_836 (by decide) ?_
  refine z_iadd hx hb dL_law_837 ?_
  refine z_sld hx hb hXs hbl hbA hS (j := i + 1) (by omega) hL dL_law_838 ?_
  refine lv_aload_n hx hb dL_law_839 rfl (lv_at hl 3 rfl) ?_
  have hP : va_P g.1 vwCl (zWm g mo ad th S.1 S.2.2.2.2.2.2.2 ++ zWc g oa ua ar o S ++ []) H := by rw [List.append_nil]; exact hP
  have hD : va_D (fun q : Nat => s.heap.size ≤ q) (zWm g mo ad th S.1 S.2.2.2.2.2.2.2 ++ zWc g oa ua ar o S ++ []) := by rw [List.append_nil]; exact hD
  refine z_ai (wa := zWm g mo ad th S.1 S.2.2.2.2.2.2.2) (wc := zWc g oa ua ar o S) (wb := []) (vx_runSW (As := [.ref ua, .int (xs (i + 1)), .ref oa]) (rest := []) ⟨hx, hb, hml, hown, hts⟩ (C_right l hst g oa ua ar o S (xs (i + 1)) hI H.size _ rfl) (vx_cwSW 3 hts gL_law_L_right rfl rfl rfl (by decide +kernel) ⟨Nat.le_of_ble_eq_true rfl, Nat.le_of_ble_eq_true rfl⟩) (zpreXS (wa := zWm g mo ad th S.1 S.2.2.2.2.2.2.2) (wc := zWc g oa ua ar o S) (wb := []) hK hP hD hS hA hX) rfl rfl hl.1 rfl (lv_room (Nat.le_of_ble_eq_true rfl)) dL_law_840 ⟨by omega, by omega⟩) hP hD hS hA (fun r wC H locs hqC hP hD hS => ?_)
  rw [List.append_nil] at hP hD
  refine lv_istore (lv' := [(5, .int r), (0, .ref b), (1, .ref ua), (2, .ref mo), (3, .ref oa), (4, .int (nI i))]) hx hb dL_law_843 hl (by decide) rfl (fun ls hl => ?_)
  refine lv_aload_n hx hb dL_law_845 rfl (lv_at hl 3 rfl) ?_
  refine lv_aload_n hx hb dL_law_846 rfl (lv_at hl 1 rfl) ?_
  refine lv_iload hx hb dL_law_847 (lv_at hl 5 rfl) ?_
  refine lv_iconst (v := nI 1) hx hb dL_law_849 (by decide) ?_
  refine z_iadd hx hb dL_law_850 ?_
  refine z_sld hx hb hXs hbl hbA hS (j := i + 1) (by omega) hL dL_law_851 ?_
  refine z_ai (wa := []) (wc := zWm g mo ad th S.1 S.2.2.2.2.2.2.2) (wb := wC) (va_runV (As := [.int (xs (i + 1))]) (rest := []) ⟨hx, hb, hml, hown, hts⟩ (M_right l g mo ad th S (xs (i + 1)) hI H.size _ rfl) (cwV 1 hts gL_law_X2_right rfl rfl rfl (by decide +kernel) ⟨Nat.le_of_ble_eq_true rfl, Nat.le_of_ble_eq_true rfl⟩) (zpreV (wa := []) (wc := zWm g mo ad th S.1 S.2.2.2.2.2.2.2) (wb := wC) (q0 := 0) (ci := 2) (T := TX2) (N := 13) hK hP hD rfl rfl) rfl rfl hl.1 rfl (lv_room (Nat.le_of_ble_eq_true rfl)) dL_law_852 ⟨by omega, by omega⟩) hP hD hS hA (fun q wM H locs hqM hP hD hS => ?_)
  exact L_tail C0 hK (z_comb dt_right hI hqC hqM) hP hD hS hl kk (by omega) (by omega) hc0 hs0 dL_law_855 dL_law_857 dL_law_858 dL_law_861 dL_law_863 dL_law_868 dL_law_870 dL_law_873 dL_law_874 dL_law_875 dL_law_876 dL_law_878 dL_law_879 dL_law_880 dL_law_885 (by decide)

set_option maxHeartbeats 4000000 in
set_option maxRecDepth 100000 in
theorem L_interest (hst : l.stackTraces = false) (hL : L ≤ 4096) (C0 : lw_At p s m meth c b L xs) (hK : zK g s) (hX : zX (fun q : Nat => s.heap.size ≤ q) s s.heap) (hi : i + 8 ≤ L) (hc0 : cells + 11 ≤ room_1.cells) (hs0 : slots + 301 ≤ room_1.slots) (hI : zI S) (hP : va_P g.1 vwCl (zWm g mo ad th S.1 S.2.2.2.2.2.2.2 ++ zWc g oa ua ar o S) H) (hD : va_D (fun q : Nat => s.heap.size ≤ q) (zWm g mo ad th S.1 S.2.2.2.2.2.2.2 ++ zWc g oa ua ar o S)) (hS : va_S (fun q : Nat => s.heap.size ≤ q) s.heap H locs) (hl : lv_has ls 7 [(0, .ref b), (1, .ref ua), (2, .ref mo), (3, .ref oa), (4, .int (nI i))]) (kk : zNx p l e s m below meth c Q g mo ad oa ua ar b i cells slots) : W p l e room_1 s m #[Value.ref b] below meth c H locs cells slots Q (F0 m 888 ls []) := by
  obtain ⟨hx, hb, hr, hml, hown, hts0, hXs, hbl, hlocks, hgv⟩ := id C0
  have hown : s.vm.findClass RL = some m.cls := hown
  have hts : ∀ w ∈ wsL_law, w.before #[Value.ref b] s = true := fun w h => hts0 w (wsL_law_in w h)
  have hA : ∀ q : Nat, s.heap.size ≤ q → (fun q : Nat => s.heap.size ≤ q) q := fun _ h => h
  have hbA : ¬ (fun q : Nat => s.heap.size ≤ q) b := Nat.not_le.mpr hbl
  refine lv_aload_n hx hb dL_law_888 rfl (lv_at hl 1 rfl) ?_
  refine lv_aload_n hx hb dL_law_889 rfl (lv_at hl 0 rfl) ?_
  refine lv_iload hx hb dL_law_890 (lv_at hl 4 rfl) ?_
  refine lv_iconst (v := nI 1) hx hb dL_law_892 (by decide) ?_
  refine z_iadd hx hb dL_law_893 ?_
  refine z_sld hx hb hXs hbl hbA hS (j := i + 1) (by omega) hL dL_law_894 ?_
  refine lv_aload_n hx hb dL_law_895 rfl (lv_at hl 3 rfl) ?_
  have hP : va_P g.1 vwCl (zWm g mo ad th S.1 S.2.2.2.2.2.2.2 ++ zWc g oa ua ar o S ++ []) H := by rw [List.append_nil]; exact hP
  have hD : va_D (fun q : Nat => s.heap.size ≤ q) (zWm g mo ad th S.1 S.2.2.2.2.2.2.2 ++ zWc g oa ua ar o S ++ []) := by rw [List.append_nil]; exact hD
  refine z_ai (wa := zWm g mo ad th S.1 S.2.2.2.2.2.2.2) (wc := zWc g oa ua ar o S) (wb := []) (vx_runSW (As := [.ref ua, .int (xs (i + 1)), .ref oa]) (rest := []) ⟨hx, hb, hml, hown, hts⟩ (C_interest l hst g oa ua ar o S (xs (i + 1)) hI H.size _ rfl) (vx_cwSW 3 hts gL_law_L_interest rfl rfl rfl (by decide +kernel) ⟨Nat.le_of_ble_eq_true rfl, Nat.le_of_ble_eq_true rfl⟩) (zpreXS (wa := zWm g mo ad th S.1 S.2.2.2.2.2.2.2) (wc := zWc g oa ua ar o S) (wb := []) hK hP hD hS hA hX) rfl rfl hl.1 rfl (lv_room (Nat.le_of_ble_eq_true rfl)) dL_law_896 ⟨by omega, by omega⟩) hP hD hS hA (fun r wC H locs hqC hP hD hS => ?_)
  rw [List.append_nil] at hP hD
  refine lv_istore (lv' := [(5, .int r), (0, .ref b), (1, .ref ua), (2, .ref mo), (3, .ref oa), (4, .int (nI i))]) hx hb dL_law_899 hl (by decide) rfl (fun ls hl => ?_)
  refine lv_aload_n hx hb dL_law_901 rfl (lv_at hl 3 rfl) ?_
  refine lv_aload_n hx hb dL_law_902 rfl (lv_at hl 1 rfl) ?_
  refine lv_iload hx hb dL_law_903 (lv_at hl 5 rfl) ?_
  refine lv_iconst (v := nI 1) hx hb dL_law_905 (by decide) ?_
  refine z_iadd hx hb dL_law_906 ?_
  refine z_sld hx hb hXs hbl hbA hS (j := i + 1) (by omega) hL dL_law_907 ?_
  refine z_ai (wa := []) (wc := zWm g mo ad th S.1 S.2.2.2.2.2.2.2) (wb := wC) (va_runV (As := [.int (xs (i + 1))]) (rest := []) ⟨hx, hb, hml, hown, hts⟩ (M_interest l g mo ad th S (xs (i + 1)) hI H.size _ rfl) (cwV 1 hts gL_law_X2_interest rfl rfl rfl (by decide +kernel) ⟨Nat.le_of_ble_eq_true rfl, Nat.le_of_ble_eq_true rfl⟩) (zpreV (wa := []) (wc := zWm g mo ad th S.1 S.2.2.2.2.2.2.2) (wb := wC) (q0 := 0) (ci := 2) (T := TX2) (N := 13) hK hP hD rfl rfl) rfl rfl hl.1 rfl (lv_room (Nat.le_of_ble_eq_true rfl)) dL_law_908 ⟨by omega, by omega⟩) hP hD hS hA (fun q wM H locs hqM hP hD hS => ?_)
  exact L_tail C0 hK (z_comb dt_interest hI hqC hqM) hP hD hS hl kk (by omega) (by omega) hc0 hs0 dL_law_911 dL_law_913 dL_law_914 dL_law_917 dL_law_919 dL_law_924 dL_law_926 dL_law_929 dL_law_930 dL_law_931 dL_law_932 dL_law_934 dL_law_935 dL_law_936 dL_law_941 (by decide)

set_option maxHeartbeats 4000000 in
set_option maxRecDepth 100000 in
theorem L_written (hst : l.stackTraces = false) (hL : L ≤ 4096) (C0 : lw_At p s m meth c b L xs) (hK : zK g s) (hX : zX (fun q : Nat => s.heap.size ≤ q) s s.heap) (hi : i + 8 ≤ L) (hc0 : cells + 11 ≤ room_1.cells) (hs0 : slots + 301 ≤ room_1.slots) (hI : zI S) (hP : va_P g.1 vwCl (zWm g mo ad th S.1 S.2.2.2.2.2.2.2 ++ zWc g oa ua ar o S) H) (hD : va_D (fun q : Nat => s.heap.size ≤ q) (zWm g mo ad th S.1 S.2.2.2.2.2.2.2 ++ zWc g oa ua ar o S)) (hS : va_S (fun q : Nat => s.heap.size ≤ q) s.heap H locs) (hl : lv_has ls 7 [(0, .ref b), (1, .ref ua), (2, .ref mo), (3, .ref oa), (4, .int (nI i))]) (kk : zNx p l e s m below meth c Q g mo ad oa ua ar b i cells slots) : W p l e room_1 s m #[Value.ref b] below meth c H locs cells slots Q (F0 m 944 ls []) := by
  obtain ⟨hx, hb, hr, hml, hown, hts0, hXs, hbl, hlocks, hgv⟩ := id C0
  have hown : s.vm.findClass RL = some m.cls := hown
  have hts : ∀ w ∈ wsL_law, w.before #[Value.ref b] s = true := fun w h => hts0 w (wsL_law_in w h)
  have hA : ∀ q : Nat, s.heap.size ≤ q → (fun q : Nat => s.heap.size ≤ q) q := fun _ h => h
  have hbA : ¬ (fun q : Nat => s.heap.size ≤ q) b := Nat.not_le.mpr hbl
  refine lv_aload_n hx hb dL_law_944 rfl (lv_at hl 1 rfl) ?_
  refine lv_aload_n hx hb dL_law_945 rfl (lv_at hl 0 rfl) ?_
  refine lv_iload hx hb dL_law_946 (lv_at hl 4 rfl) ?_
  refine lv_iconst (v := nI 1) hx hb dL_law_948 (by decide) ?_
  refine z_iadd hx hb dL_law_949 ?_
  refine z_sld hx hb hXs hbl hbA hS (j := i + 1) (by omega) hL dL_law_950 ?_
  refine lv_aload_n hx hb dL_law_951 rfl (lv_at hl 3 rfl) ?_
  have hP : va_P g.1 vwCl (zWm g mo ad th S.1 S.2.2.2.2.2.2.2 ++ zWc g oa ua ar o S ++ []) H := by rw [List.append_nil]; exact hP
  have hD : va_D (fun q : Nat => s.heap.size ≤ q) (zWm g mo ad th S.1 S.2.2.2.2.2.2.2 ++ zWc g oa ua ar o S ++ []) := by rw [List.append_nil]; exact hD
  refine z_ai (wa := zWm g mo ad th S.1 S.2.2.2.2.2.2.2) (wc := zWc g oa ua ar o S) (wb := []) (vx_runSW (As := [.ref ua, .int (xs (i + 1)), .ref oa]) (rest := []) ⟨hx, hb, hml, hown, hts⟩ (C_written l hst g oa ua ar o S (xs (i + 1)) hI H.size _ rfl) (vx_cwSW 3 hts gL_law_L_written rfl rfl rfl (by decide +kernel) ⟨Nat.le_of_ble_eq_true rfl, Nat.le_of_ble_eq_true rfl⟩) (zpreXS (wa := zWm g mo ad th S.1 S.2.2.2.2.2.2.2) (wc := zWc g oa ua ar o S) (wb := []) hK hP hD hS hA hX) rfl rfl hl.1 rfl (lv_room (Nat.le_of_ble_eq_true rfl)) dL_law_952 ⟨by omega, by omega⟩) hP hD hS hA (fun r wC H locs hqC hP hD hS => ?_)
  rw [List.append_nil] at hP hD
  refine lv_istore (lv' := [(5, .int r), (0, .ref b), (1, .ref ua), (2, .ref mo), (3, .ref oa), (4, .int (nI i))]) hx hb dL_law_955 hl (by decide) rfl (fun ls hl => ?_)
  refine lv_aload_n hx hb dL_law_957 rfl (lv_at hl 3 rfl) ?_
  refine lv_aload_n hx hb dL_law_958 rfl (lv_at hl 1 rfl) ?_
  refine lv_iload hx hb dL_law_959 (lv_at hl 5 rfl) ?_
  refine lv_iconst (v := nI 1) hx hb dL_law_961 (by decide) ?_
  refine z_iadd hx hb dL_law_962 ?_
  refine z_sld hx hb hXs hbl hbA hS (j := i + 1) (by omega) hL dL_law_963 ?_
  refine z_ai (wa := []) (wc := zWm g mo ad th S.1 S.2.2.2.2.2.2.2) (wb := wC) (va_runV (As := [.int (xs (i + 1))]) (rest := []) ⟨hx, hb, hml, hown, hts⟩ (M_written l g mo ad th S (xs (i + 1)) hI H.size _ rfl) (cwV 1 hts gL_law_X2_written rfl rfl rfl (by decide +kernel) ⟨Nat.le_of_ble_eq_true rfl, Nat.le_of_ble_eq_true rfl⟩) (zpreV (wa := []) (wc := zWm g mo ad th S.1 S.2.2.2.2.2.2.2) (wb := wC) (q0 := 0) (ci := 2) (T := TX2) (N := 13) hK hP hD rfl rfl) rfl rfl hl.1 rfl (lv_room (Nat.le_of_ble_eq_true rfl)) dL_law_964 ⟨by omega, by omega⟩) hP hD hS hA (fun q wM H locs hqM hP hD hS => ?_)
  exact L_tail C0 hK (z_comb dt_written hI hqC hqM) hP hD hS hl kk (by omega) (by omega) hc0 hs0 dL_law_967 dL_law_969 dL_law_970 dL_law_973 dL_law_975 dL_law_980 dL_law_982 dL_law_985 dL_law_986 dL_law_987 dL_law_988 dL_law_990 dL_law_991 dL_law_992 dL_law_997 (by decide)

set_option maxHeartbeats 4000000 in
set_option maxRecDepth 100000 in
theorem L_paid (hst : l.stackTraces = false) (hL : L ≤ 4096) (C0 : lw_At p s m meth c b L xs) (hK : zK g s) (hX : zX (fun q : Nat => s.heap.size ≤ q) s s.heap) (hi : i + 8 ≤ L) (hc0 : cells + 11 ≤ room_1.cells) (hs0 : slots + 301 ≤ room_1.slots) (hI : zI S) (hP : va_P g.1 vwCl (zWm g mo ad th S.1 S.2.2.2.2.2.2.2 ++ zWc g oa ua ar o S) H) (hD : va_D (fun q : Nat => s.heap.size ≤ q) (zWm g mo ad th S.1 S.2.2.2.2.2.2.2 ++ zWc g oa ua ar o S)) (hS : va_S (fun q : Nat => s.heap.size ≤ q) s.heap H locs) (hl : lv_has ls 7 [(0, .ref b), (1, .ref ua), (2, .ref mo), (3, .ref oa), (4, .int (nI i))]) (kk : zNx p l e s m below meth c Q g mo ad oa ua ar b i cells slots) : W p l e room_1 s m #[Value.ref b] below meth c H locs cells slots Q (F0 m 1000 ls []) := by
  obtain ⟨hx, hb, hr, hml, hown, hts0, hXs, hbl, hlocks, hgv⟩ := id C0
  have hown : s.vm.findClass RL = some m.cls := hown
  have hts : ∀ w ∈ wsL_law, w.before #[Value.ref b] s = true := fun w h => hts0 w (wsL_law_in w h)
  have hA : ∀ q : Nat, s.heap.size ≤ q → (fun q : Nat => s.heap.size ≤ q) q := fun _ h => h
  have hbA : ¬ (fun q : Nat => s.heap.size ≤ q) b := Nat.not_le.mpr hbl
  refine lv_aload_n hx hb dL_law_1000 rfl (lv_at hl 1 rfl) ?_
  refine lv_aload_n hx hb dL_law_1001 rfl (lv_at hl 0 rfl) ?_
  refine lv_iload hx hb dL_law_1002 (lv_at hl 4 rfl) ?_
  refine lv_iconst (v := nI 1) hx hb dL_law_1004 (by decide) ?_
  refine z_iadd hx hb dL_law_1005 ?_
  refine z_sld hx hb hXs hbl hbA hS (j := i + 1) (by omega) hL dL_law_1006 ?_
  refine lv_aload_n hx hb dL_law_1007 rfl (lv_at hl 3 rfl) ?_
  have hP : va_P g.1 vwCl (zWm g mo ad th S.1 S.2.2.2.2.2.2.2 ++ zWc g oa ua ar o S ++ []) H := by rw [List.append_nil]; exact hP
  have hD : va_D (fun q : Nat => s.heap.size ≤ q) (zWm g mo ad th S.1 S.2.2.2.2.2.2.2 ++ zWc g oa ua ar o S ++ []) := by rw [List.append_nil]; exact hD
  refine z_ai (wa := zWm g mo ad th S.1 S.2.2.2.2.2.2.2) (wc := zWc g oa ua ar o S) (wb := []) (vx_runSW (As := [.ref ua, .int (xs (i + 1)), .ref oa]) (rest := []) ⟨hx, hb, hml, hown, hts⟩ (C_paid l hst g oa ua ar o S (xs (i + 1)) hI H.size _ rfl) (vx_cwSW 3 hts gL_law_L_paid rfl rfl rfl (by decide +kernel) ⟨Nat.le_of_ble_eq_true rfl, Nat.le_of_ble_eq_true rfl⟩) (zpreXS (wa := zWm g mo ad th S.1 S.2.2.2.2.2.2.2) (wc := zWc g oa ua ar o S) (wb := []) hK hP hD hS hA hX) rfl rfl hl.1 rfl (lv_room (Nat.le_of_ble_eq_true rfl)) dL_law_1008 ⟨by omega, by omega⟩) hP hD hS hA (fun r wC H locs hqC hP hD hS => ?_)
  rw [List.append_nil] at hP hD
  refine lv_istore (lv' := [(5, .int r), (0, .ref b), (1, .ref ua), (2, .ref mo), (3, .ref oa), (4, .int (nI i))]) hx hb dL_law_1011 hl (by decide) rfl (fun ls hl => ?_)
  refine lv_aload_n hx hb dL_law_1013 rfl (lv_at hl 3 rfl) ?_
  refine lv_aload_n hx hb dL_law_1014 rfl (lv_at hl 1 rfl) ?_
  refine lv_iload hx hb dL_law_1015 (lv_at hl 5 rfl) ?_
  refine lv_iconst (v := nI 1) hx hb dL_law_1017 (by decide) ?_
  refine z_iadd hx hb dL_law_1018 ?_
  refine z_sld hx hb hXs hbl hbA hS (j := i + 1) (by omega) hL dL_law_1019 ?_
  refine z_ai (wa := []) (wc := zWm g mo ad th S.1 S.2.2.2.2.2.2.2) (wb := wC) (va_runV (As := [.int (xs (i + 1))]) (rest := []) ⟨hx, hb, hml, hown, hts⟩ (M_paid l g mo ad th S (xs (i + 1)) hI H.size _ rfl) (cwV 1 hts gL_law_X2_paid rfl rfl rfl (by decide +kernel) ⟨Nat.le_of_ble_eq_true rfl, Nat.le_of_ble_eq_true rfl⟩) (zpreV (wa := []) (wc := zWm g mo ad th S.1 S.2.2.2.2.2.2.2) (wb := wC) (q0 := 0) (ci := 2) (T := TX2) (N := 13) hK hP hD rfl rfl) rfl rfl hl.1 rfl (lv_room (Nat.le_of_ble_eq_true rfl)) dL_law_1020 ⟨by omega, by omega⟩) hP hD hS hA (fun q wM H locs hqM hP hD hS => ?_)
  exact L_tail C0 hK (z_comb dt_paid hI hqC hqM) hP hD hS hl kk (by omega) (by omega) hc0 hs0 dL_law_1023 dL_law_1025 dL_law_1026 dL_law_1029 dL_law_1031 dL_law_1036 dL_law_1038 dL_law_1041 dL_law_1042 dL_law_1043 dL_law_1044 dL_law_1046 dL_law_1047 dL_law_1048 dL_law_1053 (by decide)

set_option maxHeartbeats 4000000 in
set_option maxRecDepth 100000 in
theorem L_gains (hst : l.stackTraces = false) (hL : L ≤ 4096) (C0 : lw_At p s m meth c b L xs) (hK : zK g s) (hX : zX (fun q : Nat => s.heap.size ≤ q) s s.heap) (hi : i + 8 ≤ L) (hc0 : cells + 11 ≤ room_1.cells) (hs0 : slots + 301 ≤ room_1.slots) (hI : zI S) (hP : va_P g.1 vwCl (zWm g mo ad th S.1 S.2.2.2.2.2.2.2 ++ zWc g oa ua ar o S) H) (hD : va_D (fun q : Nat => s.heap.size ≤ q) (zWm g mo ad th S.1 S.2.2.2.2.2.2.2 ++ zWc g oa ua ar o S)) (hS : va_S (fun q : Nat => s.heap.size ≤ q) s.heap H locs) (hl : lv_has ls 7 [(0, .ref b), (1, .ref ua), (2, .ref mo), (3, .ref oa), (4, .int (nI i))]) (kk : zNx p l e s m below meth c Q g mo ad oa ua ar b i cells slots) : W p l e room_1 s m #[Value.ref b] below meth c H locs cells slots Q (F0 m 1056 ls []) := by
  obtain ⟨hx, hb, hr, hml, hown, hts0, hXs, hbl, hlocks, hgv⟩ := id C0
  have hown : s.vm.findClass RL = some m.cls := hown
  have hts : ∀ w ∈ wsL_law, w.before #[Value.ref b] s = true := fun w h => hts0 w (wsL_law_in w h)
  have hA : ∀ q : Nat, s.heap.size ≤ q → (fun q : Nat => s.heap.size ≤ q) q := fun _ h => h
  have hbA : ¬ (fun q : Nat => s.heap.size ≤ q) b := Nat.not_le.mpr hbl
  refine lv_aload_n hx hb dL_law_1056 rfl (lv_at hl 1 rfl) ?_
  refine lv_aload_n hx hb dL_law_1057 rfl (lv_at hl 0 rfl) ?_
  refine lv_iload hx hb dL_law_1058 (lv_at hl 4 rfl) ?_
  refine lv_iconst (v := nI 1) hx hb dL_law_1060 (by decide) ?_
  refine z_iadd hx hb dL_law_1061 ?_
  refine z_sld hx hb hXs hbl hbA hS (j := i + 1) (by omega) hL dL_law_1062 ?_
  refine lv_aload_n hx hb dL_law_1063 rfl (lv_at hl 3 rfl) ?_
  have hP : va_P g.1 vwCl (zWm g mo ad th S.1 S.2.2.2.2.2.2.2 ++ zWc g oa ua ar o S ++ []) H := by rw [List.append_nil]; exact hP
  have hD : va_D (fun q : Nat => s.heap.size ≤ q) (zWm g mo ad th S.1 S.2.2.2.2.2.2.2 ++ zWc g oa ua ar o S ++ []) := by rw [List.append_nil]; exact hD
  refine z_ai (wa := zWm g mo ad th S.1 S.2.2.2.2.2.2.2) (wc := zWc g oa ua ar o S) (wb := []) (vx_runSW (As := [.ref ua, .int (xs (i + 1)), .ref oa]) (rest := []) ⟨hx, hb, hml, hown, hts⟩ (C_gains l hst g oa ua ar o S (xs (i + 1)) hI H.size _ rfl) (vx_cwSW 3 hts gL_law_L_gains rfl rfl rfl (by decide +kernel) ⟨Nat.le_of_ble_eq_true rfl, Nat.le_of_ble_eq_true rfl⟩) (zpreXS (wa := zWm g mo ad th S.1 S.2.2.2.2.2.2.2) (wc := zWc g oa ua ar o S) (wb := []) hK hP hD hS hA hX) rfl rfl hl.1 rfl (lv_room (Nat.le_of_ble_eq_true rfl)) dL_law_1064 ⟨by omega, by omega⟩) hP hD hS hA (fun r wC H locs hqC hP hD hS => ?_)
  rw [List.append_nil] at hP hD
  refine lv_istore (lv' := [(5, .int r), (0, .ref b), (1, .ref ua), (2, .ref mo), (3, .ref oa), (4, .int (nI i))]) hx hb dL_law_1067 hl (by decide) rfl (fun ls hl => ?_)
  refine lv_aload_n hx hb dL_law_1069 rfl (lv_at hl 3 rfl) ?_
  refine lv_aload_n hx hb dL_law_1070 rfl (lv_at hl 1 rfl) ?_
  refine lv_iload hx hb dL_law_1071 (lv_at hl 5 rfl) ?_
  refine lv_iconst (v := nI 1) hx hb dL_law_1073 (by decide) ?_
  refine z_iadd hx hb dL_law_1074 ?_
  refine z_sld hx hb hXs hbl hbA hS (j := i + 1) (by omega) hL dL_law_1075 ?_
  refine z_ai (wa := []) (wc := zWm g mo ad th S.1 S.2.2.2.2.2.2.2) (wb := wC) (va_runV (As := [.int (xs (i + 1))]) (rest := []) ⟨hx, hb, hml, hown, hts⟩ (M_gains l g mo ad th S (xs (i + 1)) hI H.size _ rfl) (cwV 1 hts gL_law_X2_gains rfl rfl rfl (by decide +kernel) ⟨Nat.le_of_ble_eq_true rfl, Nat.le_of_ble_eq_true rfl⟩) (zpreV (wa := []) (wc := zWm g mo ad th S.1 S.2.2.2.2.2.2.2) (wb := wC) (q0 := 0) (ci := 2) (T := TX2) (N := 13) hK hP hD rfl rfl) rfl rfl hl.1 rfl (lv_room (Nat.le_of_ble_eq_true rfl)) dL_law_1076 ⟨by omega, by omega⟩) hP hD hS hA (fun q wM H locs hqM hP hD hS => ?_)
  exact L_tail C0 hK (z_comb dt_gains hI hqC hqM) hP hD hS hl kk (by omega) (by omega) hc0 hs0 dL_law_1079 dL_law_1081 dL_law_1082 dL_law_1085 dL_law_1087 dL_law_1092 dL_law_1094 dL_law_1097 dL_law_1098 dL_law_1099 dL_law_1100 dL_law_1102 dL_law_1103 dL_law_1104 dL_law_1109 (by decide)

set_option maxHeartbeats 4000000 in
set_option maxRecDepth 100000 in
theorem L_rateFor (hst : l.stackTraces = false) (hL : L ≤ 4096) (C0 : lw_At p s m meth c b L xs) (hK : zK g s) (hX : zX (fun q : Nat => s.heap.size ≤ q) s s.heap) (hi : i + 8 ≤ L) (hc0 : cells + 11 ≤ room_1.cells) (hs0 : slots + 301 ≤ room_1.slots) (hI : zI S) (hP : va_P g.1 vwCl (zWm g mo ad th S.1 S.2.2.2.2.2.2.2 ++ zWc g oa ua ar o S) H) (hD : va_D (fun q : Nat => s.heap.size ≤ q) (zWm g mo ad th S.1 S.2.2.2.2.2.2.2 ++ zWc g oa ua ar o S)) (hS : va_S (fun q : Nat => s.heap.size ≤ q) s.heap H locs) (hl : lv_has ls 7 [(0, .ref b), (1, .ref ua), (2, .ref mo), (3, .ref oa), (4, .int (nI i))]) (kk : zNx p l e s m below meth c Q g mo ad oa ua ar b i cells slots) : W p l e room_1 s m #[Value.ref b] below meth c H locs cells slots Q (F0 m 1112 ls []) := by
  obtain ⟨hx, hb, hr, hml, hown, hts0, hXs, hbl, hlocks, hgv⟩ := id C0
  have hown : s.vm.findClass RL = some m.cls := hown
  have hts : ∀ w ∈ wsL_law, w.before #[Value.ref b] s = true := fun w h => hts0 w (wsL_law_in w h)
  have hA : ∀ q : Nat, s.heap.size ≤ q → (fun q : Nat => s.heap.size ≤ q) q := fun _ h => h
  have hbA : ¬ (fun q : Nat => s.heap.size ≤ q) b := Nat.not_le.mpr hbl
  refine lv_aload_n hx hb dL_law_1112 rfl (lv_at hl 1 rfl) ?_
  refine lv_aload_n hx hb dL_law_1113 rfl (lv_at hl 0 rfl) ?_
  refine lv_iload hx hb dL_law_1114 (lv_at hl 4 rfl) ?_
  refine lv_iconst (v := nI 1) hx hb dL_law_1116 (by decide) ?_
  refine z_iadd hx hb dL_law_1117 ?_
  refine z_sld hx hb hXs hbl hbA hS (j := i + 1) (by omega) hL dL_law_1118 ?_
  refine lv_aload_n hx hb dL_law_1119 rfl (lv_at hl 0 rfl) ?_
  refine lv_iload hx hb dL_law_1120 (lv_at hl 4 rfl) ?_
  refine lv_iconst (v := nI 2) hx hb dL_law_1122 (by decide) ?_
  refine z_iadd hx hb dL_law_1123 ?_
  refine z_sld hx hb hXs hbl hbA hS (j := i + 2) (by omega) hL dL_law_1124 ?_
  refine lv_aload_n hx hb dL_law_1125 rfl (lv_at hl 3 rfl) ?_
  have hP : va_P g.1 vwCl (zWm g mo ad th S.1 S.2.2.2.2.2.2.2 ++ zWc g oa ua ar o S ++ []) H := by rw [List.append_nil]; exact hP
  have hD : va_D (fun q : Nat => s.heap.size ≤ q) (zWm g mo ad th S.1 S.2.2.2.2.2.2.2 ++ zWc g oa ua ar o S ++ []) := by rw [List.append_nil]; exact hD
  refine z_ai (wa := zWm g mo ad th S.1 S.2.2.2.2.2.2.2) (wc := zWc g oa ua ar o S) (wb := []) (vx_runSW (As := [.ref ua, .int (xs (i + 1)), .int (xs (i + 2)), .ref oa]) (rest := []) ⟨hx, hb, hml, hown, hts⟩ (C_rateFor l hst g oa ua ar o S (xs (i + 1)) (xs (i + 2)) hI H.size _ rfl) (vx_cwSW 4 hts gL_law_L_rateFor rfl rfl rfl (by decide +kernel) ⟨Nat.le_of_ble_eq_true rfl, Nat.le_of_ble_eq_true rfl⟩) (zpreXS (wa := zWm g mo ad th S.1 S.2.2.2.2.2.2.2) (wc := zWc g oa ua ar o S) (wb := []) hK hP hD hS hA hX) rfl rfl hl.1 rfl (lv_room (Nat.le_of_ble_eq_true rfl)) dL_law_1126 ⟨by omega, by omega⟩) hP hD hS hA (fun r wC H locs hqC hP hD hS => ?_)
  rw [List.append_nil] at hP hD
  refine lv_istore (lv' := [(5, .int r), (0, .ref b), (1, .ref ua), (2, .ref mo), (3, .ref oa), (4, .int (nI i))]) hx hb dL_law_1129 hl (by decide) rfl (fun ls hl => ?_)
  refine lv_aload_n hx hb dL_law_1131 rfl (lv_at hl 3 rfl) ?_
  refine lv_aload_n hx hb dL_law_1132 rfl (lv_at hl 1 rfl) ?_
  refine lv_iload hx hb dL_law_1133 (lv_at hl 5 rfl) ?_
  refine lv_iconst (v := nI 1) hx hb dL_law_1135 (by decide) ?_
  refine z_iadd hx hb dL_law_1136 ?_
  refine z_sld hx hb hXs hbl hbA hS (j := i + 1) (by omega) hL dL_law_1137 ?_
  refine lv_aload_n hx hb dL_law_1138 rfl (lv_at hl 1 rfl) ?_
  refine lv_iload hx hb dL_law_1139 (lv_at hl 5 rfl) ?_
  refine lv_iconst (v := nI 2) hx hb dL_law_1141 (by decide) ?_
  refine z_iadd hx hb dL_law_1142 ?_
  refine z_sld hx hb hXs hbl hbA hS (j := i + 2) (by omega) hL dL_law_1143 ?_
  refine z_ai (wa := []) (wc := zWm g mo ad th S.1 S.2.2.2.2.2.2.2) (wb := wC) (va_runV (As := [.int (xs (i + 1)), .int (xs (i + 2))]) (rest := []) ⟨hx, hb, hml, hown, hts⟩ (M_rateFor l g mo ad th S (xs (i + 1)) (xs (i + 2)) hI H.size _ rfl) (cwV 2 hts gL_law_X2_rateFor rfl rfl rfl (by decide +kernel) ⟨Nat.le_of_ble_eq_true rfl, Nat.le_of_ble_eq_true rfl⟩) (zpreV (wa := []) (wc := zWm g mo ad th S.1 S.2.2.2.2.2.2.2) (wb := wC) (q0 := 0) (ci := 2) (T := TX2) (N := 13) hK hP hD rfl rfl) rfl rfl hl.1 rfl (lv_room (Nat.le_of_ble_eq_true rfl)) dL_law_1144 ⟨by omega, by omega⟩) hP hD hS hA (fun q wM H locs hqM hP hD hS => ?_)
  exact L_tail C0 hK (z_comb (dt_rateFor (xs (i + 2))) hI hqC hqM) hP hD hS hl kk (by omega) (by omega) hc0 hs0 dL_law_1147 dL_law_1149 dL_law_1150 dL_law_1153 dL_law_1155 dL_law_1160 dL_law_1162 dL_law_1165 dL_law_1166 dL_law_1167 dL_law_1168 dL_law_1170 dL_law_1171 dL_law_1172 dL_law_1177 (by decide)

set_option maxHeartbeats 4000000 in
set_option maxRecDepth 100000 in
theorem L_saleGain (hst : l.stackTraces = false) (hL : L ≤ 4096) (C0 : lw_At p s m meth c b L xs) (hK : zK g s) (hX : zX (fun q : Nat => s.heap.size ≤ q) s s.heap) (hi : i + 8 ≤ L) (hc0 : cells + 11 ≤ room_1.cells) (hs0 : slots + 301 ≤ room_1.slots) (hI : zI S) (hP : va_P g.1 vwCl (zWm g mo ad th S.1 S.2.2.2.2.2.2.2 ++ zWc g oa ua ar o S) H) (hD : va_D (fun q : Nat => s.heap.size ≤ q) (zWm g mo ad th S.1 S.2.2.2.2.2.2.2 ++ zWc g oa ua ar o S)) (hS : va_S (fun q : Nat => s.heap.size ≤ q) s.heap H locs) (hl : lv_has ls 7 [(0, .ref b), (1, .ref ua), (2, .ref mo), (3, .ref oa), (4, .int (nI i))]) (kk : zNx p l e s m below meth c Q g mo ad oa ua ar b i cells slots) : W p l e room_1 s m #[Value.ref b] below meth c H locs cells slots Q (F0 m 1180 ls []) := by
  obtain ⟨hx, hb, hr, hml, hown, hts0, hXs, hbl, hlocks, hgv⟩ := id C0
  have hown : s.vm.findClass RL = some m.cls := hown
  have hts : ∀ w ∈ wsL_law, w.before #[Value.ref b] s = true := fun w h => hts0 w (wsL_law_in w h)
  have hA : ∀ q : Nat, s.heap.size ≤ q → (fun q : Nat => s.heap.size ≤ q) q := fun _ h => h
  have hbA : ¬ (fun q : Nat => s.heap.size ≤ q) b := Nat.not_le.mpr hbl
  refine lv_aload_n hx hb dL_law_1180 rfl (lv_at hl 1 rfl) ?_
  refine lv_aload_n hx hb dL_law_1181 rfl (lv_at hl 0 rfl) ?_
  refine lv_iload hx hb dL_law_1182 (lv_at hl 4 rfl) ?_
  refine lv_iconst (v := nI 1) hx hb dL_law_1184 (by decide) ?_
  refine z_iadd hx hb dL_law_1185 ?_
  refine z_sld hx hb hXs hbl hbA hS (j := i + 1) (by omega) hL dL_law_1186 ?_
  refine lv_aload_n hx hb dL_law_1187 rfl (lv_at hl 0 rfl) ?_
  refine lv_iload hx hb dL_law_1188 (lv_at hl 4 rfl) ?_
  refine lv_iconst (v := nI 2) hx hb dL_law_1190 (by decide) ?_
  refine z_iadd hx hb dL_law_1191 ?_
  refine z_sld hx hb hXs hbl hbA hS (j := i + 2) (by omega) hL dL_law_1192 ?_
  refine lv_aload_n hx hb dL_law_1193 rfl (lv_at hl 0 rfl) ?_
  refine lv_iload hx hb dL_law_1194 (lv_at hl 4 rfl) ?_
  refine lv_iconst (v := nI 3) hx hb dL_law_1196 (by decide) ?_
  refine z_iadd hx hb dL_law_1197 ?_
  refine z_sld hx hb hXs hbl hbA hS (j := i + 3) (by omega) hL dL_law_1198 ?_
  refine lv_aload_n hx hb dL_law_1199 rfl (lv_at hl 3 rfl) ?_
  have hP : va_P g.1 vwCl (zWm g mo ad th S.1 S.2.2.2.2.2.2.2 ++ zWc g oa ua ar o S ++ []) H := by rw [List.append_nil]; exact hP
  have hD : va_D (fun q : Nat => s.heap.size ≤ q) (zWm g mo ad th S.1 S.2.2.2.2.2.2.2 ++ zWc g oa ua ar o S ++ []) := by rw [List.append_nil]; exact hD
  refine z_ai (wa := zWm g mo ad th S.1 S.2.2.2.2.2.2.2) (wc := zWc g oa ua ar o S) (wb := []) (vx_runSW (As := [.ref ua, .int (xs (i + 1)), .int (xs (i + 2)), .int (xs (i + 3)), .ref oa]) (rest := []) ⟨hx, hb, hml, hown, hts⟩ (C_saleGain l hst g oa ua ar o S (xs (i + 1)) (xs (i + 2)) (xs (i + 3)) hI H.size _ rfl) (vx_cwSW 5 hts gL_law_L_saleGain rfl rfl rfl (by decide +kernel) ⟨Nat.le_of_ble_eq_true rfl, Nat.le_of_ble_eq_true rfl⟩) (zpreXS (wa := zWm g mo ad th S.1 S.2.2.2.2.2.2.2) (wc := zWc g oa ua ar o S) (wb := []) hK hP hD hS hA hX) rfl rfl hl.1 rfl (lv_room (Nat.le_of_ble_eq_true rfl)) dL_law_1200 ⟨by omega, by omega⟩) hP hD hS hA (fun r wC H locs hqC hP hD hS => ?_)
  rw [List.append_nil] at hP hD
  refine lv_istore (lv' := [(5, .int r), (0, .ref b), (1, .ref ua), (2, .ref mo), (3, .ref oa), (4, .int (nI i))]) hx hb dL_law_1203 hl (by decide) rfl (fun ls hl => ?_)
  refine lv_aload_n hx hb dL_law_1205 rfl (lv_at hl 3 rfl) ?_
  refine lv_aload_n hx hb dL_law_1206 rfl (lv_at hl 1 rfl) ?_
  refine lv_iload hx hb dL_law_1207 (lv_at hl 5 rfl) ?_
  refine lv_iconst (v := nI 1) hx hb dL_law_1209 (by decide) ?_
  refine z_iadd hx hb dL_law_1210 ?_
  refine z_sld hx hb hXs hbl hbA hS (j := i + 1) (by omega) hL dL_law_1211 ?_
  refine lv_aload_n hx hb dL_law_1212 rfl (lv_at hl 1 rfl) ?_
  refine lv_iload hx hb dL_law_1213 (lv_at hl 5 rfl) ?_
  refine lv_iconst (v := nI 2) hx hb dL_law_1215 (by decide) ?_
  refine z_iadd hx hb dL_law_1216 ?_
  refine z_sld hx hb hXs hbl hbA hS (j := i + 2) (by omega) hL dL_law_1217 ?_
  refine lv_aload_n hx hb dL_law_1218 rfl (lv_at hl 1 rfl) ?_
  refine lv_iload hx hb dL_law_1219 (lv_at hl 5 rfl) ?_
  refine lv_iconst (v := nI 3) hx hb dL_law_1221 (by decide) ?_
  refine z_iadd hx hb dL_law_1222 ?_
  refine z_sld hx hb hXs hbl hbA hS (j := i + 3) (by omega) hL dL_law_1223 ?_
  refine z_ai (wa := []) (wc := zWm g mo ad th S.1 S.2.2.2.2.2.2.2) (wb := wC) (va_runV (As := [.int (xs (i + 1)), .int (xs (i + 2)), .int (xs (i + 3))]) (rest := []) ⟨hx, hb, hml, hown, hts⟩ (M_saleGain l g mo ad th S (xs (i + 1)) (xs (i + 2)) (xs (i + 3)) hI H.size _ rfl) (cwV 3 hts gL_law_X2_saleGain rfl rfl rfl (by decide +kernel) ⟨Nat.le_of_ble_eq_true rfl, Nat.le_of_ble_eq_true rfl⟩) (zpreV (wa := []) (wc := zWm g mo ad th S.1 S.2.2.2.2.2.2.2) (wb := wC) (q0 := 0) (ci := 2) (T := TX2) (N := 13) hK hP hD rfl rfl) rfl rfl hl.1 rfl (lv_room (Nat.le_of_ble_eq_true rfl)) dL_law_1224 ⟨by omega, by omega⟩) hP hD hS hA (fun q wM H locs hqM hP hD hS => ?_)
  exact L_tail C0 hK (z_comb (dt_saleGain (xs (i + 2)) (xs (i + 3))) hI hqC hqM) hP hD hS hl kk (by omega) (by omega) hc0 hs0 dL_law_1227 dL_law_1229 dL_law_1230 dL_law_1233 dL_law_1235 dL_law_1240 dL_law_1242 dL_law_1245 dL_law_1246 dL_law_1247 dL_law_1248 dL_law_1250 dL_law_1251 dL_law_1252 dL_law_1257 (by decide)
end ZLX
