/-! the class of a lease: its reads -/
theorem z_nIneg {a b : Nat} (ha : a < 2 ^ 30) (hb : b < 2 ^ 30) : (nI a - nI b).toInt = (a : Int) - b := pk_sub_toInt ha hb
set_option maxHeartbeats 4000000 in
set_option maxRecDepth 100000 in
theorem c_monthsLeft (l : Launch) (g : zG) (h pa da rt lf T P : Nat) (R xI xP xW xG : Int64) (u v : Nat → Int32) (hPT : P ≤ T) : zMi l yX0_monthsLeft wsX0_monthsLeft ({ frames := 0, cells := 0, slots := 0, locals := 0 } : Room) [.ref h] g [(h, .inr (0, [.int (nI rt), .int (nI lf), .ref pa, .ref da, .int (nI T), .int (nI P), .long R, .long xI, .long xP, .long xW, .long xG])), (pa, .inl (g.2.1, 120, .inl u)), (da, .inl (g.2.1, 121, .inl v))] (fun q w => q = nI (T - P) ∧ w = [(h, .inr (0, [.int (nI rt), .int (nI lf), .ref pa, .ref da, .int (nI T), .int (nI P), .long R, .long xI, .long xP, .long xW, .long xG])), (pa, .inl (g.2.1, 120, .inl u)), (da, .inl (g.2.1, 121, .inl v))]) 0 0 := by
  intro sz A hAe
  refine Met.ofW (cc := cX0_monthsLeft) (maxL := 1) (ret := some .int) (by decide) rfl ?_
  intro p e s m args below meth c s₁ B hml hv
  obtain ⟨rfl, hsz, hP, hK, hD0⟩ := hv
  have hx := B.exec
  have hb := B.bytes
  have hr := B.returns
  have hts := atoms_spec (ws := wsX0_monthsLeft) B.pre
  have hown : s.vm.findClass RX0 = some m.cls := findClass_of_methodNamed B.named
  have hlocks := B.notSynchronized
  obtain ⟨hD, hA, hS⟩ := z_in hsz hAe hD0
  have hl := lv_entry ([.ref h]) (n := 1) (Nat.le_of_ble_eq_true rfl)
  rw [lg_entry_eq]
  generalize (lg_sl ([.ref h]) ++ List.replicate (1 - (lg_sl ([.ref h])).length) Slot.unset).toArray = ls at hl ⊢
  have hl : lv_has ls 1 [(0, .ref h)] := hl
  have hinX0 : ∀ w ∈ wsX00, w ∈ wsX0_monthsLeft := by decide +kernel
  refine lv_aload_n hx hb dX0_monthsLeft_0 rfl (lv_at hl 0 rfl) ?_
  refine va_get (D := g.1) (ci := 0) (v := .int (nI T)) (C := RX0) (T := TX0) (N := 11) hx hb hts hinX0 hown hK hP 0 rfl rfl 4 (by decide) (hts (.fieldLink RX0 27 "Usewise$Lease" "term" "I") (by decide +kernel)) (fun _ h9 => h9) rfl dX0_monthsLeft_1 ?_
  refine lv_aload_n hx hb dX0_monthsLeft_4 rfl (lv_at hl 0 rfl) ?_
  refine va_get (D := g.1) (ci := 0) (v := .int (nI P)) (C := RX0) (T := TX0) (N := 11) hx hb hts hinX0 hown hK hP 0 rfl rfl 5 (by decide) (hts (.fieldLink RX0 52 "Usewise$Lease" "past" "I") (by decide +kernel)) (fun _ h9 => h9) rfl dX0_monthsLeft_5 ?_
  refine z_isub hx hb dX0_monthsLeft_8 (by omega) ?_
  exact z_iret hx hb hr hP hK hD hS dX0_monthsLeft_9 hlocks (⟨rfl, rfl⟩)

set_option maxHeartbeats 4000000 in
set_option maxRecDepth 100000 in
theorem c_at (l : Launch) (g : zG) (pa N k : Nat) (u : Nat → Int32) (hk : k < N) (hN : N ≤ 1000) : zMi l yX0_at wsX0_at ({ frames := 0, cells := 0, slots := 0, locals := 0 } : Room) [.ref pa, .int (nI k)] g [(pa, .inl (g.2.1, N, .inl u))] (fun q w => q = u k ∧ w = [(pa, .inl (g.2.1, N, .inl u))]) 0 0 := by
  intro sz A hAe
  refine Met.ofW (cc := cX0_at) (maxL := 2) (ret := some .int) (by decide) rfl ?_
  intro p e s m args below meth c s₁ B hml hv
  obtain ⟨rfl, hsz, hP, hK, hD0⟩ := hv
  have hx := B.exec
  have hb := B.bytes
  have hr := B.returns
  have hts := atoms_spec (ws := wsX0_at) B.pre
  have hown : s.vm.findClass RX0 = some m.cls := findClass_of_methodNamed B.named
  have hlocks := B.notSynchronized
  obtain ⟨hD, hA, hS⟩ := z_in hsz hAe hD0
  have hl := lv_entry ([.ref pa, .int (nI k)]) (n := 2) (Nat.le_of_ble_eq_true rfl)
  rw [lg_entry_eq]
  generalize (lg_sl ([.ref pa, .int (nI k)]) ++ List.replicate (2 - (lg_sl ([.ref pa, .int (nI k)])).length) Slot.unset).toArray = ls at hl ⊢
  have hl : lv_has ls 2 [(0, .ref pa), (1, .int (nI k))] := hl
  refine lv_iload_n hx hb dX0_at_0 rfl (lv_at hl 1 rfl) ?_
  refine z_if_lt (tgt := 16) hx hb dX0_at_1 (by decide) (by omega) (fun hc => ?_) (fun hc => ?_)
  · exact hc.elim
  · refine lv_iload_n hx hb dX0_at_4 rfl (lv_at hl 1 rfl) ?_
    refine lv_aload_n hx hb dX0_at_5 rfl (lv_at hl 0 rfl) ?_
    refine va_alen (v := nI N) hx hb hK hP 0 0 rfl rfl rfl dX0_at_6 ?_
    refine z_icmp_ge (tgt := 16) hx hb dX0_at_7 (by decide) (by omega) (by omega) (fun hd => ?_) (fun hd => ?_)
    · exact absurd hk (by omega)
    · refine lv_aload_n hx hb dX0_at_10 rfl (lv_at hl 0 rfl) ?_
      refine lv_iload_n hx hb dX0_at_11 rfl (lv_at hl 1 rfl) ?_
      refine z_iald hx hb hK hP 0 0 rfl rfl (by omega) (by omega) dX0_at_12 ?_
      refine lv_goto (tgt := 17) hx hb dX0_at_13 (by decide) ?_
      exact z_iret hx hb hr hP hK hD hS dX0_at_17 hlocks (⟨rfl, rfl⟩)

set_option maxHeartbeats 4000000 in
set_option maxRecDepth 100000 in
theorem c_put (l : Launch) (g : zG) (pa N k : Nat) (x : Int32) (u : Nat → Int32) (hk : k < N) (hN : N ≤ 1000) : zMv l yX0_put wsX0_put ({ frames := 0, cells := 0, slots := 0, locals := 0 } : Room) [.ref pa, .int (nI k), .int x] g [(pa, .inl (g.2.1, N, .inl u))] (fun w => w = [(pa, .inl (g.2.1, N, .inl (upd u k x)))]) 0 0 := by
  intro sz A hAe
  refine Met.ofW (cc := cX0_put) (maxL := 3) (ret := none) (by decide) rfl ?_
  intro p e s m args below meth c s₁ B hml hv
  obtain ⟨rfl, hsz, hP, hK, hD0⟩ := hv
  have hx := B.exec
  have hb := B.bytes
  have hr := B.returns
  have hts := atoms_spec (ws := wsX0_put) B.pre
  have hown : s.vm.findClass RX0 = some m.cls := findClass_of_methodNamed B.named
  have hlocks := B.notSynchronized
  obtain ⟨hD, hA, hS⟩ := z_in hsz hAe hD0
  have hl := lv_entry ([.ref pa, .int (nI k), .int x]) (n := 3) (Nat.le_of_ble_eq_true rfl)
  rw [lg_entry_eq]
  generalize (lg_sl ([.ref pa, .int (nI k), .int x]) ++ List.replicate (3 - (lg_sl ([.ref pa, .int (nI k), .int x])).length) Slot.unset).toArray = ls at hl ⊢
  have hl : lv_has ls 3 [(0, .ref pa), (1, .int (nI k)), (2, .int x)] := hl
  refine lv_iload_n hx hb dX0_put_0 rfl (lv_at hl 1 rfl) ?_
  refine z_if_lt (tgt := 14) hx hb dX0_put_1 (by decide) (by omega) (fun hc => ?_) (fun hc => ?_)
  · exact hc.elim
  · refine lv_iload_n hx hb dX0_put_4 rfl (lv_at hl 1 rfl) ?_
    refine lv_aload_n hx hb dX0_put_5 rfl (lv_at hl 0 rfl) ?_
    refine va_alen (v := nI N) hx hb hK hP 0 0 rfl rfl rfl dX0_put_6 ?_
    refine z_icmp_ge (tgt := 14) hx hb dX0_put_7 (by decide) (by omega) (by omega) (fun hd => ?_) (fun hd => ?_)
    · exact absurd hk (by omega)
    · refine lv_aload_n hx hb dX0_put_10 rfl (lv_at hl 0 rfl) ?_
      refine lv_iload_n hx hb dX0_put_11 rfl (lv_at hl 1 rfl) ?_
      refine lv_iload_n hx hb dX0_put_12 rfl (lv_at hl 2 rfl) ?_
      refine z_iast hx hb hK hP hD hS 0 0 rfl rfl (by omega) (by omega) dX0_put_13 (fun H locs hP hD hS => ?_)
      have hP : va_P g.1 vwCl [(pa, .inl (g.2.1, N, .inl (upd u k x)))] H := hP
      have hD : va_D A [(pa, .inl (g.2.1, N, .inl (upd u k x)))] := hD
      exact z_vret hx hb hr hP hK hD hS dX0_put_14 hlocks rfl

set_option maxHeartbeats 4000000 in
set_option maxRecDepth 100000 in
theorem c_debtNow (l : Launch) (g : zG) (h pa da rt lf T P : Nat) (R xI xP xW xG : Int64) (u v : Nat → Int32) (hP0 : P ≤ 120) : zMi l yX0_debtNow wsX0_debtNow ({ frames := 1, cells := 0, slots := 0, locals := 22 } : Room) [.ref h] g [(h, .inr (0, [.int (nI rt), .int (nI lf), .ref pa, .ref da, .int (nI T), .int (nI P), .long R, .long xI, .long xP, .long xW, .long xG])), (pa, .inl (g.2.1, 120, .inl u)), (da, .inl (g.2.1, 121, .inl v))] (fun q w => q = v P ∧ w = [(h, .inr (0, [.int (nI rt), .int (nI lf), .ref pa, .ref da, .int (nI T), .int (nI P), .long R, .long xI, .long xP, .long xW, .long xG])), (pa, .inl (g.2.1, 120, .inl u)), (da, .inl (g.2.1, 121, .inl v))]) 0 0 := by
  intro sz A hAe
  refine Met.ofW (cc := cX0_debtNow) (maxL := 1) (ret := some .int) (by decide) rfl ?_
  intro p e s m args below meth c s₁ B hml hv
  obtain ⟨rfl, hsz, hP, hK, hD0⟩ := hv
  have hx := B.exec
  have hb := B.bytes
  have hr := B.returns
  have hts := atoms_spec (ws := wsX0_debtNow) B.pre
  have hown : s.vm.findClass RX0 = some m.cls := findClass_of_methodNamed B.named
  have hlocks := B.notSynchronized
  obtain ⟨hD, hA, hS⟩ := z_in hsz hAe hD0
  have hl := lv_entry ([.ref h]) (n := 1) (Nat.le_of_ble_eq_true rfl)
  rw [lg_entry_eq]
  generalize (lg_sl ([.ref h]) ++ List.replicate (1 - (lg_sl ([.ref h])).length) Slot.unset).toArray = ls at hl ⊢
  have hl : lv_has ls 1 [(0, .ref h)] := hl
  have hinX0 : ∀ w ∈ wsX00, w ∈ wsX0_debtNow := by decide +kernel
  refine lv_aload_n hx hb dX0_debtNow_0 rfl (lv_at hl 0 rfl) ?_
  refine va_get (D := g.1) (ci := 0) (v := .ref da) (C := RX0) (T := TX0) (N := 11) hx hb hts hinX0 hown hK hP 0 rfl rfl 3 (by decide) (hts (.fieldLink RX0 34 "Usewise$Lease" "debts" "[I") (by decide +kernel)) (fun _ h9 => h9) rfl dX0_debtNow_1 ?_
  refine lv_aload_n hx hb dX0_debtNow_4 rfl (lv_at hl 0 rfl) ?_
  refine va_get (D := g.1) (ci := 0) (v := .int (nI P)) (C := RX0) (T := TX0) (N := 11) hx hb hts hinX0 hown hK hP 0 rfl rfl 5 (by decide) (hts (.fieldLink RX0 52 "Usewise$Lease" "past" "I") (by decide +kernel)) (fun _ h9 => h9) rfl dX0_debtNow_5 ?_
  refine z_ai (wa := [(h, .inr (0, [.int (nI rt), .int (nI lf), .ref pa, .ref da, .int (nI T), .int (nI P), .long R, .long xI, .long xP, .long xW, .long xG])), (pa, .inl (g.2.1, 120, .inl u))]) (wc := [(da, .inl (g.2.1, 121, .inl v))]) (wb := []) (va_runS (As := [.ref da, .int (nI P)]) (rest := []) ⟨hx, hb, hml, hown, hts⟩ (c_at l g da 121 P v (by omega) (by decide) s.heap.size _ rfl) (va_cwS 2 hts gX0_debtNow_X0_at rfl rfl rfl (by decide +kernel) ⟨Nat.le_of_ble_eq_true rfl, Nat.le_of_ble_eq_true rfl⟩) (zpreS (wa := [(h, .inr (0, [.int (nI rt), .int (nI lf), .ref pa, .ref da, .int (nI T), .int (nI P), .long R, .long xI, .long xP, .long xW, .long xG])), (pa, .inl (g.2.1, 120, .inl u))]) (wc := [(da, .inl (g.2.1, 121, .inl v))]) (wb := []) hK hP hD) rfl rfl hl.1 rfl (lv_room (Nat.le_of_ble_eq_true rfl)) dX0_debtNow_8 ⟨Nat.le_of_ble_eq_true rfl, Nat.le_of_ble_eq_true rfl⟩) hP hD hS hA (fun r_1 w1 H locs hq hP hD hS => ?_)
  obtain ⟨rfl, rfl⟩ := hq
  have hP : va_P g.1 vwCl [(h, .inr (0, [.int (nI rt), .int (nI lf), .ref pa, .ref da, .int (nI T), .int (nI P), .long R, .long xI, .long xP, .long xW, .long xG])), (pa, .inl (g.2.1, 120, .inl u)), (da, .inl (g.2.1, 121, .inl v))] H := hP
  have hD : va_D A [(h, .inr (0, [.int (nI rt), .int (nI lf), .ref pa, .ref da, .int (nI T), .int (nI P), .long R, .long xI, .long xP, .long xW, .long xG])), (pa, .inl (g.2.1, 120, .inl u)), (da, .inl (g.2.1, 121, .inl v))] := hD
  exact z_iret hx hb hr hP hK hD hS dX0_debtNow_11 hlocks (⟨rfl, rfl⟩)

set_option maxHeartbeats 4000000 in
set_option maxRecDepth 100000 in
theorem c_hasRoomFor (l : Launch) (g : zG) (h pa da rt lf T P : Nat) (R xI xP xW xG : Int64) (u v : Nat → Int32) (k : Nat) (hT : T ≤ 120) (hk : k ≤ 36) : zMi l yX0_hasRoomFor wsX0_hasRoomFor ({ frames := 0, cells := 0, slots := 0, locals := 0 } : Room) [.ref h, .int (nI k)] g [(h, .inr (0, [.int (nI rt), .int (nI lf), .ref pa, .ref da, .int (nI T), .int (nI P), .long R, .long xI, .long xP, .long xW, .long xG])), (pa, .inl (g.2.1, 120, .inl u)), (da, .inl (g.2.1, 121, .inl v))] (fun q w => ((T + k ≤ 120 ∧ q = nI 1) ∨ (120 < T + k ∧ q = nI 0)) ∧ w = [(h, .inr (0, [.int (nI rt), .int (nI lf), .ref pa, .ref da, .int (nI T), .int (nI P), .long R, .long xI, .long xP, .long xW, .long xG])), (pa, .inl (g.2.1, 120, .inl u)), (da, .inl (g.2.1, 121, .inl v))]) 0 0 := by
  intro sz A hAe
  refine Met.ofW (cc := cX0_hasRoomFor) (maxL := 2) (ret := some .boolean) (by decide) rfl ?_
  intro p e s m args below meth c s₁ B hml hv
  obtain ⟨rfl, hsz, hP, hK, hD0⟩ := hv
  have hx := B.exec
  have hb := B.bytes
  have hr := B.returns
  have hts := atoms_spec (ws := wsX0_hasRoomFor) B.pre
  have hown : s.vm.findClass RX0 = some m.cls := findClass_of_methodNamed B.named
  have hlocks := B.notSynchronized
  obtain ⟨hD, hA, hS⟩ := z_in hsz hAe hD0
  have hl := lv_entry ([.ref h, .int (nI k)]) (n := 2) (Nat.le_of_ble_eq_true rfl)
  rw [lg_entry_eq]
  generalize (lg_sl ([.ref h, .int (nI k)]) ++ List.replicate (2 - (lg_sl ([.ref h, .int (nI k)])).length) Slot.unset).toArray = ls at hl ⊢
  have hl : lv_has ls 2 [(0, .ref h), (1, .int (nI k))] := hl
  have hinX0 : ∀ w ∈ wsX00, w ∈ wsX0_hasRoomFor := by decide +kernel
  refine lv_aload_n hx hb dX0_hasRoomFor_0 rfl (lv_at hl 0 rfl) ?_
  refine va_get (D := g.1) (ci := 0) (v := .int (nI T)) (C := RX0) (T := TX0) (N := 11) hx hb hts hinX0 hown hK hP 0 rfl rfl 4 (by decide) (hts (.fieldLink RX0 27 "Usewise$Lease" "term" "I") (by decide +kernel)) (fun _ h9 => h9) rfl dX0_hasRoomFor_1 ?_
  refine lv_iload_n hx hb dX0_hasRoomFor_4 rfl (lv_at hl 1 rfl) ?_
  refine z_iadd hx hb dX0_hasRoomFor_5 ?_
  refine lv_bipush (v := nI 120) hx hb dX0_hasRoomFor_6 (by decide) ?_
  refine z_icmp_gt (tgt := 15) hx hb dX0_hasRoomFor_8 (by decide) (by omega) (by omega) (fun hc => ?_) (fun hc => ?_)
  · refine lv_iconst (v := nI 0) hx hb dX0_hasRoomFor_15 (by decide) ?_
    exact z_zret hx hb hr (by decide) hP hK hD hS dX0_hasRoomFor_16 hlocks (⟨Or.inr ⟨hc, rfl⟩, rfl⟩)
  · refine lv_iconst (v := nI 1) hx hb dX0_hasRoomFor_11 (by decide) ?_
    refine lv_goto (tgt := 16) hx hb dX0_hasRoomFor_12 (by decide) ?_
    exact z_zret hx hb hr (by decide) hP hK hD hS dX0_hasRoomFor_16 hlocks (⟨Or.inl ⟨hc, rfl⟩, rfl⟩)

set_option maxHeartbeats 4000000 in
set_option maxRecDepth 100000 in
theorem c_worthBefore (l : Launch) (g : zG) (x r0 : Nat) (hr0 : r0 ≤ 20000) (hx0 : x ≤ 1000000000) : zMl l yX0_worthBefore wsX0_worthBefore ({ frames := 0, cells := 0, slots := 0, locals := 0 } : Room) [.long (lN x), .int (nI r0)] g [] (fun q w => q = lN (zB r0 x) ∧ w = []) 0 0 := by
  intro sz A hAe
  refine Met.ofW (cc := cX0_worthBefore) (maxL := 5) (ret := some .long) (by decide) rfl ?_
  intro p e s m args below meth c s₁ B hml hv
  obtain ⟨rfl, hsz, hP, hK, hD0⟩ := hv
  have hx := B.exec
  have hb := B.bytes
  have hr := B.returns
  have hts := atoms_spec (ws := wsX0_worthBefore) B.pre
  have hown : s.vm.findClass RX0 = some m.cls := findClass_of_methodNamed B.named
  have hlocks := B.notSynchronized
  obtain ⟨hD, hA, hS⟩ := z_in hsz hAe hD0
  have hl := lv_entry ([.long (lN x), .int (nI r0)]) (n := 5) (Nat.le_of_ble_eq_true rfl)
  rw [lg_entry_eq]
  generalize (lg_sl ([.long (lN x), .int (nI r0)]) ++ List.replicate (5 - (lg_sl ([.long (lN x), .int (nI r0)])).length) Slot.unset).toArray = ls at hl ⊢
  have hl : lv_has ls 5 [(0, .long (lN x)), (2, .int (nI r0))] := hl
  refine lv_ldc2 (v := lN 1000000) hx hb hown (hts (.constantLong RX0 63 (1000000)) (by decide +kernel)) dX0_worthBefore_0 ?_
  refine lv_iload_n hx hb dX0_worthBefore_3 rfl (lv_at hl 1 rfl) ?_
  refine z_i2l hx hb dX0_worthBefore_4 (by omega) ?_
  refine z_ladd hx hb dX0_worthBefore_5 ?_
  refine lv_lstore_n (lv' := [(3, .long (lN (1000000 + r0))), (0, .long (lN x)), (2, .int (nI r0))]) hx hb dX0_worthBefore_6 rfl hl (by decide) rfl (fun ls hl => ?_)
  refine lv_lload_n hx hb dX0_worthBefore_7 rfl (lv_at hl 0 rfl) ?_
  refine lv_lconst (v := lN 1) hx hb dX0_worthBefore_8 rfl ?_
  refine z_lif_ge (tgt := 17) (pc2 := 10) hx hb dX0_worthBefore_9 rfl dX0_worthBefore_10 (by decide) (fun hc => ?_) (fun hc => ?_)
  · refine lv_lload_n hx hb dX0_worthBefore_17 rfl (lv_at hl 1 rfl) ?_
    refine lv_ldc2 (v := lN 1000000) hx hb hown (hts (.constantLong RX0 63 (1000000)) (by decide +kernel)) dX0_worthBefore_18 ?_
    refine z_lmul hx hb dX0_worthBefore_21 ?_
    refine lv_lload_n hx hb dX0_worthBefore_22 rfl (lv_at hl 0 rfl) ?_
    refine z_ladd hx hb dX0_worthBefore_23 ?_
    refine lv_lconst (v := lN 1) hx hb dX0_worthBefore_24 rfl ?_
    refine z_lsub hx hb dX0_worthBefore_25 (by omega) ?_
    refine lv_lload_n hx hb dX0_worthBefore_26 rfl (lv_at hl 0 rfl) ?_
    refine z_ldiv hx hb dX0_worthBefore_27 (by omega) (by omega) (by omega) ?_
    exact z_lret hx hb hr hP hK hD hS dX0_worthBefore_28 hlocks (⟨rfl, rfl⟩)
  · exact absurd hc (by rw [pk_lLT (by omega) (by decide)]; omega)

set_option maxHeartbeats 4000000 in
set_option maxRecDepth 100000 in
theorem c_percentOf (l : Launch) (g : zG) (x a0 : Nat) (ha0 : a0 ≤ 200) (hx0 : x ≤ 1000000000) : zMl l yX0_percentOf wsX0_percentOf ({ frames := 0, cells := 0, slots := 0, locals := 0 } : Room) [.long (lN x), .int (nI a0)] g [] (fun q w => q = lN (x * a0 / 100) ∧ w = []) 0 0 := by
  intro sz A hAe
  refine Met.ofW (cc := cX0_percentOf) (maxL := 3) (ret := some .long) (by decide) rfl ?_
  intro p e s m args below meth c s₁ B hml hv
  obtain ⟨rfl, hsz, hP, hK, hD0⟩ := hv
  have hx := B.exec
  have hb := B.bytes
  have hr := B.returns
  have hts := atoms_spec (ws := wsX0_percentOf) B.pre
  have hown : s.vm.findClass RX0 = some m.cls := findClass_of_methodNamed B.named
  have hlocks := B.notSynchronized
  obtain ⟨hD, hA, hS⟩ := z_in hsz hAe hD0
  have hl := lv_entry ([.long (lN x), .int (nI a0)]) (n := 3) (Nat.le_of_ble_eq_true rfl)
  rw [lg_entry_eq]
  generalize (lg_sl ([.long (lN x), .int (nI a0)]) ++ List.replicate (3 - (lg_sl ([.long (lN x), .int (nI a0)])).length) Slot.unset).toArray = ls at hl ⊢
  have hl : lv_has ls 3 [(0, .long (lN x)), (2, .int (nI a0))] := hl
  refine lv_lload_n hx hb dX0_percentOf_0 rfl (lv_at hl 0 rfl) ?_
  refine lv_iload_n hx hb dX0_percentOf_1 rfl (lv_at hl 1 rfl) ?_
  refine z_i2l hx hb dX0_percentOf_2 (by omega) ?_
  refine z_lmul hx hb dX0_percentOf_3 ?_
  refine lv_ldc2 (v := lN 100) hx hb hown (hts (.constantLong RX0 94 (100)) (by decide +kernel)) dX0_percentOf_4 ?_
  have hxa : x * a0 ≤ 1000000000 * 200 := Nat.mul_le_mul hx0 ha0
  refine z_ldiv hx hb dX0_percentOf_7 (by omega) (by omega) (by omega) ?_
  exact z_lret hx hb hr hP hK hD hS dX0_percentOf_8 hlocks (⟨rfl, rfl⟩)
