/-! the reference: a month, a debt laid again, a part given up -/
abbrev zMo (g : zG) (mo b0 b1 b2 b3 b4 b5 b6 b7 b8 b9 b10 cnt : Nat) (th : Int32) (F : zFs) : va_W := [(mo, .inr (2, [.ref b0, .ref b1, .ref b2, .ref b3, .ref b4, .ref b5, .ref b6, .ref b7, .ref b8, .ref b9, .ref b10, .int (nI cnt), .int th])), (b0, .inl (g.2.1, 720, .inl F.1)), (b1, .inl (g.2.1, 6, .inl F.2.1)), (b2, .inl (g.2.1, 6, .inl F.2.2.1)), (b3, .inl (g.2.1, 6, .inl F.2.2.2.1)), (b4, .inl (g.2.1, 6, .inl F.2.2.2.2.1)), (b5, .inl (g.2.1, 6, .inl F.2.2.2.2.2.1)), (b6, .inl (g.2.1, 6, .inl F.2.2.2.2.2.2.1)), (b7, .inl (g.2.1, 6, .inl F.2.2.2.2.2.2.2.1)), (b8, .inl (g.2.1, 6, .inl F.2.2.2.2.2.2.2.2.1)), (b9, .inl (g.2.1, 6, .inl F.2.2.2.2.2.2.2.2.2.1)), (b10, .inl (g.2.1, 6, .inl F.2.2.2.2.2.2.2.2.2.2))]
theorem z_fol3 {R D0 D1 : Nat} (h : D0 ≤ R + D1) : nI R + (nI D1 - nI D0) = nI (R + D1 - D0) := by
  rw [← pk_sub h, ← nI_add, Int32.sub_eq_add_neg, Int32.sub_eq_add_neg, Int32.add_assoc]
theorem z_fol4 {R D0 D1 : Nat} (h : R + D1 < D0) (hD : D0 < 2 ^ 30) : nI R + (nI D1 - nI D0) < 0 := by
  have e1 : (nI D1 - nI D0).toInt = (D1 : Int) - D0 := pk_sub_toInt (by omega) (by omega)
  rw [Int32.lt_iff_toInt_lt, fb_addI (by rw [e1, nI_toInt (by omega)]; omega) (by rw [e1, nI_toInt (by omega)]; omega), e1, nI_toInt (by omega)]
  show (R : Int) + (D1 - D0) < 0
  omega
theorem z_sub_sub (a b : Int32) : a - (a - b) = b := by
  rw [Int32.sub_eq_add_neg, Int32.neg_sub, Int32.sub_eq_add_neg, Int32.add_comm b, ← Int32.add_assoc, ← Int32.sub_eq_add_neg, Int32.sub_self, Int32.zero_add]
set_option maxHeartbeats 4000000 in
set_option maxRecDepth 100000 in
theorem m_worthNow (l : Launch) (g : zG) (mo b0 b1 b2 b3 b4 b5 b6 b7 b8 b9 b10 cnt : Nat) (th : Int32) (fY fM fA fR fL fD fH fI fW fP fG : Nat → Int32) (k rt T P : Nat) (py : Nat → Nat) (hk : k < 6) (hmM : fM k = nI T) (hmA : fA k = nI P) (hmR : fR k = nI rt) (hT : T ≤ 120) (hPT : P ≤ T) (hrt : rt ≤ 20000) (hp : ∀ j, P ≤ j → j < T → py j ≤ 1000000) (hmY : ∀ j, P ≤ j → j < T → fY (120 * k + j) = nI (py j)) : zMi l yX2_worthNow wsX2_worthNow ({ frames := 1, cells := 0, slots := 0, locals := 28 } : Room) [.ref mo, .int (nI k)] g [(mo, .inr (2, [.ref b0, .ref b1, .ref b2, .ref b3, .ref b4, .ref b5, .ref b6, .ref b7, .ref b8, .ref b9, .ref b10, .int (nI cnt), .int th])), (b0, .inl (g.2.1, 720, .inl fY)), (b1, .inl (g.2.1, 6, .inl fM)), (b2, .inl (g.2.1, 6, .inl fA)), (b3, .inl (g.2.1, 6, .inl fR)), (b4, .inl (g.2.1, 6, .inl fL)), (b5, .inl (g.2.1, 6, .inl fD)), (b6, .inl (g.2.1, 6, .inl fH)), (b7, .inl (g.2.1, 6, .inl fI)), (b8, .inl (g.2.1, 6, .inl fW)), (b9, .inl (g.2.1, 6, .inl fP)), (b10, .inl (g.2.1, 6, .inl fG))] (fun q w => q = nI (zWr rt py T (T - P)) ∧ w = [(mo, .inr (2, [.ref b0, .ref b1, .ref b2, .ref b3, .ref b4, .ref b5, .ref b6, .ref b7, .ref b8, .ref b9, .ref b10, .int (nI cnt), .int th])), (b0, .inl (g.2.1, 720, .inl fY)), (b1, .inl (g.2.1, 6, .inl fM)), (b2, .inl (g.2.1, 6, .inl fA)), (b3, .inl (g.2.1, 6, .inl fR)), (b4, .inl (g.2.1, 6, .inl fL)), (b5, .inl (g.2.1, 6, .inl fD)), (b6, .inl (g.2.1, 6, .inl fH)), (b7, .inl (g.2.1, 6, .inl fI)), (b8, .inl (g.2.1, 6, .inl fW)), (b9, .inl (g.2.1, 6, .inl fP)), (b10, .inl (g.2.1, 6, .inl fG))]) 0 0 := by
  intro sz A hAe
  refine Met.ofW (cc := cX2_worthNow) (maxL := 2) (ret := some .int) (by decide) rfl ?_
  intro p e s m args below meth c s₁ B hml hv
  obtain ⟨rfl, hsz, hP, hK, hD0⟩ := hv
  have hx := B.exec
  have hb := B.bytes
  have hr := B.returns
  have hts := atoms_spec (ws := wsX2_worthNow) B.pre
  have hown : s.vm.findClass RX2 = some m.cls := findClass_of_methodNamed B.named
  have hlocks := B.notSynchronized
  obtain ⟨hD, hA, hS⟩ := z_in hsz hAe hD0
  have hl := lv_entry ([.ref mo, .int (nI k)]) (n := 2) (Nat.le_of_ble_eq_true rfl)
  rw [lg_entry_eq]
  generalize (lg_sl ([.ref mo, .int (nI k)]) ++ List.replicate (2 - (lg_sl ([.ref mo, .int (nI k)])).length) Slot.unset).toArray = ls at hl ⊢
  have hl : lv_has ls 2 [(0, .ref mo), (1, .int (nI k))] := hl
  have hinX2 : ∀ w ∈ wsX20, w ∈ wsX2_worthNow := by decide +kernel
  refine lv_aload_n hx hb dX2_worthNow_0 rfl (lv_at hl 0 rfl) ?_
  refine lv_iload_n hx hb dX2_worthNow_1 rfl (lv_at hl 1 rfl) ?_
  refine lv_aload_n hx hb dX2_worthNow_2 rfl (lv_at hl 0 rfl) ?_
  refine va_get (D := g.1) (ci := 2) (v := .ref b2) (C := RX2) (T := TX2) (N := 13) hx hb hts hinX2 hown hK hP 0 rfl rfl 2 (by decide) (hts (.fieldLink RX2 16 "UsewiseModel" "past" "[I") (by decide +kernel)) (fun _ h9 => h9) rfl dX2_worthNow_3 ?_
  refine lv_iload_n hx hb dX2_worthNow_6 rfl (lv_at hl 1 rfl) ?_
  refine z_iald hx hb hK hP 3 0 rfl rfl (by omega) (by decide) dX2_worthNow_7 ?_
  refine zi (y := nI P) (hmA) ?_
  refine lv_aload_n hx hb dX2_worthNow_8 rfl (lv_at hl 0 rfl) ?_
  refine va_get (D := g.1) (ci := 2) (v := .ref b3) (C := RX2) (T := TX2) (N := 13) hx hb hts hinX2 hown hK hP 0 rfl rfl 3 (by decide) (hts (.fieldLink RX2 19 "UsewiseModel" "rate" "[I") (by decide +kernel)) (fun _ h9 => h9) rfl dX2_worthNow_9 ?_
  refine lv_iload_n hx hb dX2_worthNow_12 rfl (lv_at hl 1 rfl) ?_
  refine z_iald hx hb hK hP 4 0 rfl rfl (by omega) (by decide) dX2_worthNow_13 ?_
  refine zi (y := nI rt) (hmR) ?_
  refine z_ai (wa := []) (wc := [(mo, .inr (2, [.ref b0, .ref b1, .ref b2, .ref b3, .ref b4, .ref b5, .ref b6, .ref b7, .ref b8, .ref b9, .ref b10, .int (nI cnt), .int th])), (b0, .inl (g.2.1, 720, .inl fY)), (b1, .inl (g.2.1, 6, .inl fM)), (b2, .inl (g.2.1, 6, .inl fA)), (b3, .inl (g.2.1, 6, .inl fR)), (b4, .inl (g.2.1, 6, .inl fL)), (b5, .inl (g.2.1, 6, .inl fD)), (b6, .inl (g.2.1, 6, .inl fH)), (b7, .inl (g.2.1, 6, .inl fI)), (b8, .inl (g.2.1, 6, .inl fW)), (b9, .inl (g.2.1, 6, .inl fP)), (b10, .inl (g.2.1, 6, .inl fG))]) (wb := []) (va_runV (As := [.int (nI k), .int (nI P), .int (nI rt)]) (rest := []) ⟨hx, hb, hml, hown, hts⟩ (m_worth l g mo b0 b1 b2 b3 b4 b5 b6 b7 b8 b9 b10 cnt th fY fM fA fR fL fD fH fI fW fP fG k P rt T py hk hmM hT hPT (by omega) hp hmY s.heap.size _ rfl) (cwV 3 hts gX2_worthNow_X2_worth rfl rfl rfl (by decide +kernel) ⟨Nat.le_of_ble_eq_true rfl, Nat.le_of_ble_eq_true rfl⟩) (zpreV (wa := []) (wc := [(mo, .inr (2, [.ref b0, .ref b1, .ref b2, .ref b3, .ref b4, .ref b5, .ref b6, .ref b7, .ref b8, .ref b9, .ref b10, .int (nI cnt), .int th])), (b0, .inl (g.2.1, 720, .inl fY)), (b1, .inl (g.2.1, 6, .inl fM)), (b2, .inl (g.2.1, 6, .inl fA)), (b3, .inl (g.2.1, 6, .inl fR)), (b4, .inl (g.2.1, 6, .inl fL)), (b5, .inl (g.2.1, 6, .inl fD)), (b6, .inl (g.2.1, 6, .inl fH)), (b7, .inl (g.2.1, 6, .inl fI)), (b8, .inl (g.2.1, 6, .inl fW)), (b9, .inl (g.2.1, 6, .inl fP)), (b10, .inl (g.2.1, 6, .inl fG))]) (wb := []) (q0 := 0) (ci := 2) (T := TX2) (N := 13) hK hP hD rfl rfl) rfl rfl hl.1 rfl (lv_room (Nat.le_of_ble_eq_true rfl)) dX2_worthNow_14 ⟨Nat.le_of_ble_eq_true rfl, Nat.le_of_ble_eq_true rfl⟩) hP hD hS hA (fun r_1 w1 H locs hq hP hD hS => ?_)
  obtain ⟨rfl, rfl⟩ := hq
  have hP : va_P g.1 vwCl [(mo, .inr (2, [.ref b0, .ref b1, .ref b2, .ref b3, .ref b4, .ref b5, .ref b6, .ref b7, .ref b8, .ref b9, .ref b10, .int (nI cnt), .int th])), (b0, .inl (g.2.1, 720, .inl fY)), (b1, .inl (g.2.1, 6, .inl fM)), (b2, .inl (g.2.1, 6, .inl fA)), (b3, .inl (g.2.1, 6, .inl fR)), (b4, .inl (g.2.1, 6, .inl fL)), (b5, .inl (g.2.1, 6, .inl fD)), (b6, .inl (g.2.1, 6, .inl fH)), (b7, .inl (g.2.1, 6, .inl fI)), (b8, .inl (g.2.1, 6, .inl fW)), (b9, .inl (g.2.1, 6, .inl fP)), (b10, .inl (g.2.1, 6, .inl fG))] H := hP
  have hD : va_D A [(mo, .inr (2, [.ref b0, .ref b1, .ref b2, .ref b3, .ref b4, .ref b5, .ref b6, .ref b7, .ref b8, .ref b9, .ref b10, .int (nI cnt), .int th])), (b0, .inl (g.2.1, 720, .inl fY)), (b1, .inl (g.2.1, 6, .inl fM)), (b2, .inl (g.2.1, 6, .inl fA)), (b3, .inl (g.2.1, 6, .inl fR)), (b4, .inl (g.2.1, 6, .inl fL)), (b5, .inl (g.2.1, 6, .inl fD)), (b6, .inl (g.2.1, 6, .inl fH)), (b7, .inl (g.2.1, 6, .inl fI)), (b8, .inl (g.2.1, 6, .inl fW)), (b9, .inl (g.2.1, 6, .inl fP)), (b10, .inl (g.2.1, 6, .inl fG))] := hD
  exact z_iret hx hb hr hP hK hD hS dX2_worthNow_17 hlocks (⟨rfl, rfl⟩)

set_option maxHeartbeats 4000000 in
set_option maxRecDepth 100000 in
theorem m_month (l : Launch) (g : zG) (mo b0 b1 b2 b3 b4 b5 b6 b7 b8 b9 b10 cnt : Nat) (th : Int32) (fY fM fA fR fL fD fH fI fW fP fG : Nat → Int32) (k rt lf T P R0 : Nat) (py : Nat → Nat) (I Pd Wn G : Int32) (hk : k < 6) (hZ : zInv rt lf (T, P, py, R0, I, Pd, Wn, G)) (hM : zMR k rt lf (T, P, py, R0, I, Pd, Wn, G) (fY, fM, fA, fR, fL, fD, fH, fI, fW, fP, fG)) (hPl : P < T) : zMv l yX2_month wsX2_month ({ frames := 1, cells := 0, slots := 0, locals := 28 } : Room) [.ref mo, .int (nI k)] g [(mo, .inr (2, [.ref b0, .ref b1, .ref b2, .ref b3, .ref b4, .ref b5, .ref b6, .ref b7, .ref b8, .ref b9, .ref b10, .int (nI cnt), .int th])), (b0, .inl (g.2.1, 720, .inl fY)), (b1, .inl (g.2.1, 6, .inl fM)), (b2, .inl (g.2.1, 6, .inl fA)), (b3, .inl (g.2.1, 6, .inl fR)), (b4, .inl (g.2.1, 6, .inl fL)), (b5, .inl (g.2.1, 6, .inl fD)), (b6, .inl (g.2.1, 6, .inl fH)), (b7, .inl (g.2.1, 6, .inl fI)), (b8, .inl (g.2.1, 6, .inl fW)), (b9, .inl (g.2.1, 6, .inl fP)), (b10, .inl (g.2.1, 6, .inl fG))] (fun w => ∃ F', w = zMo g mo b0 b1 b2 b3 b4 b5 b6 b7 b8 b9 b10 cnt th F' ∧ zMR k rt lf (zMonth rt lf (T, P, py, R0, I, Pd, Wn, G)) F' ∧ ∀ i, i < 6 → i ≠ k → zSame i (fY, fM, fA, fR, fL, fD, fH, fI, fW, fP, fG) F') 0 0 := by
  intro sz A hAe
  refine Met.ofW (cc := cX2_month) (maxL := 8) (ret := none) (by decide) rfl ?_
  intro p e s m args below meth c s₁ B hml hv
  obtain ⟨rfl, hsz, hP, hK, hD0⟩ := hv
  have hx := B.exec
  have hb := B.bytes
  have hr := B.returns
  have hts := atoms_spec (ws := wsX2_month) B.pre
  have hown : s.vm.findClass RX2 = some m.cls := findClass_of_methodNamed B.named
  have hlocks := B.notSynchronized
  obtain ⟨hD, hA, hS⟩ := z_in hsz hAe hD0
  have hl := lv_entry ([.ref mo, .int (nI k)]) (n := 8) (Nat.le_of_ble_eq_true rfl)
  rw [lg_entry_eq]
  generalize (lg_sl ([.ref mo, .int (nI k)]) ++ List.replicate (8 - (lg_sl ([.ref mo, .int (nI k)])).length) Slot.unset).toArray = ls at hl ⊢
  have hl : lv_has ls 8 [(0, .ref mo), (1, .int (nI k))] := hl
  have hinX2 : ∀ w ∈ wsX20, w ∈ wsX2_month := by decide +kernel
  obtain ⟨hT, hPT, hrt, hlf, hp, hRb⟩ := id hZ
  obtain ⟨hmM, hmA, hmR, hmL, hmD, hmH, hmI, hmW, hmP, hmG, hmY⟩ := id hM
  have hR2 := zInv_R hZ
  have hD0 := z_wb (r := rt) (j := P) hT hp (Nat.le_refl P)
  have hpP := hp P (Nat.le_refl P) hPl
  have hm0 : zMW lf T P = max 1 (min (T - P) (lf - P)) := rfl
  have hm1 := zMW_pos lf T P
  have hm2 := zMW_le (f := lf) (P := P) hT
  refine lv_aload_n hx hb dX2_month_0 rfl (lv_at hl 0 rfl) ?_
  refine va_get (D := g.1) (ci := 2) (v := .ref b0) (C := RX2) (T := TX2) (N := 13) hx hb hts hinX2 hown hK hP 0 rfl rfl 0 (by decide) (hts (.fieldLink RX2 7 "UsewiseModel" "payments" "[I") (by decide +kernel)) (fun _ h9 => h9) rfl dX2_month_1 ?_
  refine lv_bipush (v := nI 120) hx hb dX2_month_4 (by decide) ?_
  refine lv_iload_n hx hb dX2_month_6 rfl (lv_at hl 1 rfl) ?_
  refine z_imul hx hb dX2_month_7 ?_
  refine lv_aload_n hx hb dX2_month_8 rfl (lv_at hl 0 rfl) ?_
  refine va_get (D := g.1) (ci := 2) (v := .ref b2) (C := RX2) (T := TX2) (N := 13) hx hb hts hinX2 hown hK hP 0 rfl rfl 2 (by decide) (hts (.fieldLink RX2 16 "UsewiseModel" "past" "[I") (by decide +kernel)) (fun _ h9 => h9) rfl dX2_month_9 ?_
  refine lv_iload_n hx hb dX2_month_12 rfl (lv_at hl 1 rfl) ?_
  refine z_iald hx hb hK hP 3 0 rfl rfl (by omega) (by decide) dX2_month_13 ?_
  refine zi (y := nI P) (hmA) ?_
  refine z_iadd hx hb dX2_month_14 ?_
  refine z_iald hx hb hK hP 1 0 rfl rfl (by omega) (by decide) dX2_month_15 ?_
  refine zi (y := nI (py P)) (hmY P (Nat.le_refl P) hPl) ?_
  refine lv_istore_n (lv' := [(2, .int (nI (py P))), (0, .ref mo), (1, .int (nI k))]) hx hb dX2_month_16 rfl hl (by decide) rfl (fun ls hl => ?_)
  refine lv_aload_n hx hb dX2_month_17 rfl (lv_at hl 1 rfl) ?_
  refine lv_iload_n hx hb dX2_month_18 rfl (lv_at hl 2 rfl) ?_
  refine z_ai (wa := []) (wc := [(mo, .inr (2, [.ref b0, .ref b1, .ref b2, .ref b3, .ref b4, .ref b5, .ref b6, .ref b7, .ref b8, .ref b9, .ref b10, .int (nI cnt), .int th])), (b0, .inl (g.2.1, 720, .inl fY)), (b1, .inl (g.2.1, 6, .inl fM)), (b2, .inl (g.2.1, 6, .inl fA)), (b3, .inl (g.2.1, 6, .inl fR)), (b4, .inl (g.2.1, 6, .inl fL)), (b5, .inl (g.2.1, 6, .inl fD)), (b6, .inl (g.2.1, 6, .inl fH)), (b7, .inl (g.2.1, 6, .inl fI)), (b8, .inl (g.2.1, 6, .inl fW)), (b9, .inl (g.2.1, 6, .inl fP)), (b10, .inl (g.2.1, 6, .inl fG))]) (wb := []) (va_runV (As := [.int (nI k)]) (rest := []) ⟨hx, hb, hml, hown, hts⟩ (m_left l g mo b0 b1 b2 b3 b4 b5 b6 b7 b8 b9 b10 cnt th fY fM fA fR fL fD fH fI fW fP fG k T P hk hmM hmA hPT s.heap.size _ rfl) (cwV 1 hts gX2_month_X2_left rfl rfl rfl (by decide +kernel) ⟨Nat.le_of_ble_eq_true rfl, Nat.le_of_ble_eq_true rfl⟩) (zpreV (wa := []) (wc := [(mo, .inr (2, [.ref b0, .ref b1, .ref b2, .ref b3, .ref b4, .ref b5, .ref b6, .ref b7, .ref b8, .ref b9, .ref b10, .int (nI cnt), .int th])), (b0, .inl (g.2.1, 720, .inl fY)), (b1, .inl (g.2.1, 6, .inl fM)), (b2, .inl (g.2.1, 6, .inl fA)), (b3, .inl (g.2.1, 6, .inl fR)), (b4, .inl (g.2.1, 6, .inl fL)), (b5, .inl (g.2.1, 6, .inl fD)), (b6, .inl (g.2.1, 6, .inl fH)), (b7, .inl (g.2.1, 6, .inl fI)), (b8, .inl (g.2.1, 6, .inl fW)), (b9, .inl (g.2.1, 6, .inl fP)), (b10, .inl (g.2.1, 6, .inl fG))]) (wb := []) (q0 := 0) (ci := 2) (T := TX2) (N := 13) hK hP hD rfl rfl) rfl rfl hl.1 rfl (lv_room (Nat.le_of_ble_eq_true rfl)) dX2_month_19 ⟨Nat.le_of_ble_eq_true rfl, Nat.le_of_ble_eq_true rfl⟩) hP hD hS hA (fun r_1 w1 H locs hq hP hD hS => ?_)
  obtain ⟨rfl, rfl⟩ := hq
  have hP : va_P g.1 vwCl [(mo, .inr (2, [.ref b0, .ref b1, .ref b2, .ref b3, .ref b4, .ref b5, .ref b6, .ref b7, .ref b8, .ref b9, .ref b10, .int (nI cnt), .int th])), (b0, .inl (g.2.1, 720, .inl fY)), (b1, .inl (g.2.1, 6, .inl fM)), (b2, .inl (g.2.1, 6, .inl fA)), (b3, .inl (g.2.1, 6, .inl fR)), (b4, .inl (g.2.1, 6, .inl fL)), (b5, .inl (g.2.1, 6, .inl fD)), (b6, .inl (g.2.1, 6, .inl fH)), (b7, .inl (g.2.1, 6, .inl fI)), (b8, .inl (g.2.1, 6, .inl fW)), (b9, .inl (g.2.1, 6, .inl fP)), (b10, .inl (g.2.1, 6, .inl fG))] H := hP
  have hD : va_D A [(mo, .inr (2, [.ref b0, .ref b1, .ref b2, .ref b3, .ref b4, .ref b5, .ref b6, .ref b7, .ref b8, .ref b9, .ref b10, .int (nI cnt), .int th])), (b0, .inl (g.2.1, 720, .inl fY)), (b1, .inl (g.2.1, 6, .inl fM)), (b2, .inl (g.2.1, 6, .inl fA)), (b3, .inl (g.2.1, 6, .inl fR)), (b4, .inl (g.2.1, 6, .inl fL)), (b5, .inl (g.2.1, 6, .inl fD)), (b6, .inl (g.2.1, 6, .inl fH)), (b7, .inl (g.2.1, 6, .inl fI)), (b8, .inl (g.2.1, 6, .inl fW)), (b9, .inl (g.2.1, 6, .inl fP)), (b10, .inl (g.2.1, 6, .inl fG))] := hD
  refine lv_istore_n (lv' := [(3, .int (nI (T - P))), (2, .int (nI (py P))), (0, .ref mo), (1, .int (nI k))]) hx hb dX2_month_22 rfl hl (by decide) rfl (fun ls hl => ?_)
  refine lv_aload_n hx hb dX2_month_23 rfl (lv_at hl 2 rfl) ?_
  refine va_get (D := g.1) (ci := 2) (v := .ref b4) (C := RX2) (T := TX2) (N := 13) hx hb hts hinX2 hown hK hP 0 rfl rfl 4 (by decide) (hts (.fieldLink RX2 22 "UsewiseModel" "life" "[I") (by decide +kernel)) (fun _ h9 => h9) rfl dX2_month_24 ?_
  refine lv_iload_n hx hb dX2_month_27 rfl (lv_at hl 3 rfl) ?_
  refine z_iald hx hb hK hP 5 0 rfl rfl (by omega) (by decide) dX2_month_28 ?_
  refine zi (y := nI lf) (hmL) ?_
  refine lv_aload_n hx hb dX2_month_29 rfl (lv_at hl 2 rfl) ?_
  refine va_get (D := g.1) (ci := 2) (v := .ref b2) (C := RX2) (T := TX2) (N := 13) hx hb hts hinX2 hown hK hP 0 rfl rfl 2 (by decide) (hts (.fieldLink RX2 16 "UsewiseModel" "past" "[I") (by decide +kernel)) (fun _ h9 => h9) rfl dX2_month_30 ?_
  refine lv_iload_n hx hb dX2_month_33 rfl (lv_at hl 3 rfl) ?_
  refine z_iald hx hb hK hP 3 0 rfl rfl (by omega) (by decide) dX2_month_34 ?_
  refine zi (y := nI P) (hmA) ?_
  refine lv_isub hx hb dX2_month_35 ?_
  refine lv_istore (lv' := [(4, .int ((nI lf) - (nI P))), (3, .int (nI (T - P))), (2, .int (nI (py P))), (0, .ref mo), (1, .int (nI k))]) hx hb dX2_month_36 hl (by decide) rfl (fun ls hl => ?_)
  refine lv_iload_n hx hb dX2_month_38 rfl (lv_at hl 1 rfl) ?_
  refine lv_iload hx hb dX2_month_39 (lv_at hl 0 rfl) ?_
  have tail : ∀  (ls : Array Slot), lv_has ls 8 [(2, .int (nI (py P))), (0, .ref mo), (1, .int (nI k))] → W p l e (headSpec wsX2_month ({ frames := 1, cells := 0, slots := 0, locals := 28 } : Room)).room s m ([.ref mo, .int (nI k)] : List Value).toArray below meth c H locs 0 0 (MQ below (va_Qv (fun w => ∃ F', w = zMo g mo b0 b1 b2 b3 b4 b5 b6 b7 b8 b9 b10 cnt th F' ∧ zMR k rt lf (zMonth rt lf (T, P, py, R0, I, Pd, Wn, G)) F' ∧ ∀ i, i < 6 → i ≠ k → zSame i (fY, fM, fA, fR, fL, fD, fH, fI, fW, fP, fG) F') (zOut g A) A) ([.ref mo, .int (nI k)] : List Value).toArray s 0 0 A) (F0 m 76 ls [.int (nI (R0 / zMW lf T P))]) := by
    intro  ls  hl
    refine lv_istore (lv' := [(6, .int (nI (R0 / zMW lf T P))), (2, .int (nI (py P))), (0, .ref mo), (1, .int (nI k))]) hx hb dX2_month_76 hl (by decide) rfl (fun ls hl => ?_)
    refine lv_aload_n hx hb dX2_month_78 rfl (lv_at hl 2 rfl) ?_
    refine lv_iload_n hx hb dX2_month_79 rfl (lv_at hl 3 rfl) ?_
    refine lv_aload_n hx hb dX2_month_80 rfl (lv_at hl 2 rfl) ?_
    refine va_get (D := g.1) (ci := 2) (v := .ref b2) (C := RX2) (T := TX2) (N := 13) hx hb hts hinX2 hown hK hP 0 rfl rfl 2 (by decide) (hts (.fieldLink RX2 16 "UsewiseModel" "past" "[I") (by decide +kernel)) (fun _ h9 => h9) rfl dX2_month_81 ?_
    refine lv_iload_n hx hb dX2_month_84 rfl (lv_at hl 3 rfl) ?_
    refine z_iald hx hb hK hP 3 0 rfl rfl (by omega) (by decide) dX2_month_85 ?_
    refine zi (y := nI P) (hmA) ?_
    refine lv_iconst (v := nI 1) hx hb dX2_month_86 (by decide) ?_
    refine z_iadd hx hb dX2_month_87 ?_
    refine lv_aload_n hx hb dX2_month_88 rfl (lv_at hl 2 rfl) ?_
    refine va_get (D := g.1) (ci := 2) (v := .ref b3) (C := RX2) (T := TX2) (N := 13) hx hb hts hinX2 hown hK hP 0 rfl rfl 3 (by decide) (hts (.fieldLink RX2 19 "UsewiseModel" "rate" "[I") (by decide +kernel)) (fun _ h9 => h9) rfl dX2_month_89 ?_
    refine lv_iload_n hx hb dX2_month_92 rfl (lv_at hl 3 rfl) ?_
    refine z_iald hx hb hK hP 4 0 rfl rfl (by omega) (by decide) dX2_month_93 ?_
    refine zi (y := nI rt) (hmR) ?_
    refine z_ai (wa := []) (wc := [(mo, .inr (2, [.ref b0, .ref b1, .ref b2, .ref b3, .ref b4, .ref b5, .ref b6, .ref b7, .ref b8, .ref b9, .ref b10, .int (nI cnt), .int th])), (b0, .inl (g.2.1, 720, .inl fY)), (b1, .inl (g.2.1, 6, .inl fM)), (b2, .inl (g.2.1, 6, .inl fA)), (b3, .inl (g.2.1, 6, .inl fR)), (b4, .inl (g.2.1, 6, .inl fL)), (b5, .inl (g.2.1, 6, .inl fD)), (b6, .inl (g.2.1, 6, .inl fH)), (b7, .inl (g.2.1, 6, .inl fI)), (b8, .inl (g.2.1, 6, .inl fW)), (b9, .inl (g.2.1, 6, .inl fP)), (b10, .inl (g.2.1, 6, .inl fG))]) (wb := []) (va_runV (As := [.int (nI k), .int (nI (P + 1)), .int (nI rt)]) (rest := []) ⟨hx, hb, hml, hown, hts⟩ (m_worth l g mo b0 b1 b2 b3 b4 b5 b6 b7 b8 b9 b10 cnt th fY fM fA fR fL fD fH fI fW fP fG k (P + 1) rt T py hk hmM hT (by omega) (by omega) (fun j h1 h2 => hp j (by omega) h2) (fun j h1 h2 => hmY j (by omega) h2) H.size _ rfl) (cwV 3 hts gX2_month_X2_worth rfl rfl rfl (by decide +kernel) ⟨Nat.le_of_ble_eq_true rfl, Nat.le_of_ble_eq_true rfl⟩) (zpreV (wa := []) (wc := [(mo, .inr (2, [.ref b0, .ref b1, .ref b2, .ref b3, .ref b4, .ref b5, .ref b6, .ref b7, .ref b8, .ref b9, .ref b10, .int (nI cnt), .int th])), (b0, .inl (g.2.1, 720, .inl fY)), (b1, .inl (g.2.1, 6, .inl fM)), (b2, .inl (g.2.1, 6, .inl fA)), (b3, .inl (g.2.1, 6, .inl fR)), (b4, .inl (g.2.1, 6, .inl fL)), (b5, .inl (g.2.1, 6, .inl fD)), (b6, .inl (g.2.1, 6, .inl fH)), (b7, .inl (g.2.1, 6, .inl fI)), (b8, .inl (g.2.1, 6, .inl fW)), (b9, .inl (g.2.1, 6, .inl fP)), (b10, .inl (g.2.1, 6, .inl fG))]) (wb := []) (q0 := 0) (ci := 2) (T := TX2) (N := 13) hK hP hD rfl rfl) rfl rfl hl.1 rfl (lv_room (Nat.le_of_ble_eq_true rfl)) dX2_month_94 ⟨Nat.le_of_ble_eq_true rfl, Nat.le_of_ble_eq_true rfl⟩) hP hD hS hA (fun r_2 w1 H locs hq hP hD hS => ?_)
    obtain ⟨rfl, rfl⟩ := hq
    have hP : va_P g.1 vwCl [(mo, .inr (2, [.ref b0, .ref b1, .ref b2, .ref b3, .ref b4, .ref b5, .ref b6, .ref b7, .ref b8, .ref b9, .ref b10, .int (nI cnt), .int th])), (b0, .inl (g.2.1, 720, .inl fY)), (b1, .inl (g.2.1, 6, .inl fM)), (b2, .inl (g.2.1, 6, .inl fA)), (b3, .inl (g.2.1, 6, .inl fR)), (b4, .inl (g.2.1, 6, .inl fL)), (b5, .inl (g.2.1, 6, .inl fD)), (b6, .inl (g.2.1, 6, .inl fH)), (b7, .inl (g.2.1, 6, .inl fI)), (b8, .inl (g.2.1, 6, .inl fW)), (b9, .inl (g.2.1, 6, .inl fP)), (b10, .inl (g.2.1, 6, .inl fG))] H := hP
    have hD : va_D A [(mo, .inr (2, [.ref b0, .ref b1, .ref b2, .ref b3, .ref b4, .ref b5, .ref b6, .ref b7, .ref b8, .ref b9, .ref b10, .int (nI cnt), .int th])), (b0, .inl (g.2.1, 720, .inl fY)), (b1, .inl (g.2.1, 6, .inl fM)), (b2, .inl (g.2.1, 6, .inl fA)), (b3, .inl (g.2.1, 6, .inl fR)), (b4, .inl (g.2.1, 6, .inl fL)), (b5, .inl (g.2.1, 6, .inl fD)), (b6, .inl (g.2.1, 6, .inl fH)), (b7, .inl (g.2.1, 6, .inl fI)), (b8, .inl (g.2.1, 6, .inl fW)), (b9, .inl (g.2.1, 6, .inl fP)), (b10, .inl (g.2.1, 6, .inl fG))] := hD
    refine lv_istore (lv' := [(7, .int (nI (zWr rt py T (T - (P + 1))))), (6, .int (nI (R0 / zMW lf T P))), (2, .int (nI (py P))), (0, .ref mo), (1, .int (nI k))]) hx hb dX2_month_97 hl (by decide) rfl (fun ls hl => ?_)
    refine lv_aload_n hx hb dX2_month_99 rfl (lv_at hl 3 rfl) ?_
    refine va_get (D := g.1) (ci := 2) (v := .ref b7) (C := RX2) (T := TX2) (N := 13) hx hb hts hinX2 hown hK hP 0 rfl rfl 7 (by decide) (hts (.fieldLink RX2 31 "UsewiseModel" "interest" "[I") (by decide +kernel)) (fun _ h9 => h9) rfl dX2_month_100 ?_
    refine lv_iload_n hx hb dX2_month_103 rfl (lv_at hl 4 rfl) ?_
    refine lv_dup2_11 hx hb dX2_month_104 rfl rfl ?_
    refine z_iald hx hb hK hP 8 0 rfl rfl (by omega) (by decide) dX2_month_105 ?_
    refine zi (y := I) (hmI) ?_
    refine lv_iload hx hb dX2_month_106 (lv_at hl 0 rfl) ?_
    refine lv_iload_n hx hb dX2_month_108 rfl (lv_at hl 2 rfl) ?_
    refine z_iadd hx hb dX2_month_109 ?_
    refine lv_aload_n hx hb dX2_month_110 rfl (lv_at hl 3 rfl) ?_
    refine va_get (D := g.1) (ci := 2) (v := .ref b5) (C := RX2) (T := TX2) (N := 13) hx hb hts hinX2 hown hK hP 0 rfl rfl 5 (by decide) (hts (.fieldLink RX2 25 "UsewiseModel" "debt" "[I") (by decide +kernel)) (fun _ h9 => h9) rfl dX2_month_111 ?_
    refine lv_iload_n hx hb dX2_month_114 rfl (lv_at hl 4 rfl) ?_
    refine z_iald hx hb hK hP 6 0 rfl rfl (by omega) (by decide) dX2_month_115 ?_
    refine zi (y := nI (zWr rt py T (T - P))) (hmD) ?_
    refine lv_isub hx hb dX2_month_116 ?_
    refine lv_iadd hx hb dX2_month_117 ?_
    refine z_iast hx hb hK hP hD hS 8 0 rfl rfl (by omega) (by decide) dX2_month_118 (fun H locs hP hD hS => ?_)
    have hP : va_P g.1 vwCl [(mo, .inr (2, [.ref b0, .ref b1, .ref b2, .ref b3, .ref b4, .ref b5, .ref b6, .ref b7, .ref b8, .ref b9, .ref b10, .int (nI cnt), .int th])), (b0, .inl (g.2.1, 720, .inl fY)), (b1, .inl (g.2.1, 6, .inl fM)), (b2, .inl (g.2.1, 6, .inl fA)), (b3, .inl (g.2.1, 6, .inl fR)), (b4, .inl (g.2.1, 6, .inl fL)), (b5, .inl (g.2.1, 6, .inl fD)), (b6, .inl (g.2.1, 6, .inl fH)), (b7, .inl (g.2.1, 6, .inl (upd fI k (I + ((nI (zWr rt py T (T - (P + 1)) + (py P))) - (nI (zWr rt py T (T - P)))))))), (b8, .inl (g.2.1, 6, .inl fW)), (b9, .inl (g.2.1, 6, .inl fP)), (b10, .inl (g.2.1, 6, .inl fG))] H := hP
    have hD : va_D A [(mo, .inr (2, [.ref b0, .ref b1, .ref b2, .ref b3, .ref b4, .ref b5, .ref b6, .ref b7, .ref b8, .ref b9, .ref b10, .int (nI cnt), .int th])), (b0, .inl (g.2.1, 720, .inl fY)), (b1, .inl (g.2.1, 6, .inl fM)), (b2, .inl (g.2.1, 6, .inl fA)), (b3, .inl (g.2.1, 6, .inl fR)), (b4, .inl (g.2.1, 6, .inl fL)), (b5, .inl (g.2.1, 6, .inl fD)), (b6, .inl (g.2.1, 6, .inl fH)), (b7, .inl (g.2.1, 6, .inl (upd fI k (I + ((nI (zWr rt py T (T - (P + 1)) + (py P))) - (nI (zWr rt py T (T - P)))))))), (b8, .inl (g.2.1, 6, .inl fW)), (b9, .inl (g.2.1, 6, .inl fP)), (b10, .inl (g.2.1, 6, .inl fG))] := hD
    refine lv_aload_n hx hb dX2_month_119 rfl (lv_at hl 3 rfl) ?_
    refine va_get (D := g.1) (ci := 2) (v := .ref b9) (C := RX2) (T := TX2) (N := 13) hx hb hts hinX2 hown hK hP 0 rfl rfl 9 (by decide) (hts (.fieldLink RX2 37 "UsewiseModel" "paid" "[I") (by decide +kernel)) (fun _ h9 => h9) rfl dX2_month_120 ?_
    refine lv_iload_n hx hb dX2_month_123 rfl (lv_at hl 4 rfl) ?_
    refine lv_dup2_11 hx hb dX2_month_124 rfl rfl ?_
    refine z_iald hx hb hK hP 10 0 rfl rfl (by omega) (by decide) dX2_month_125 ?_
    refine zi (y := Pd) (hmP) ?_
    refine lv_iload_n hx hb dX2_month_126 rfl (lv_at hl 2 rfl) ?_
    refine lv_iadd hx hb dX2_month_127 ?_
    refine z_iast hx hb hK hP hD hS 10 0 rfl rfl (by omega) (by decide) dX2_month_128 (fun H locs hP hD hS => ?_)
    have hP : va_P g.1 vwCl [(mo, .inr (2, [.ref b0, .ref b1, .ref b2, .ref b3, .ref b4, .ref b5, .ref b6, .ref b7, .ref b8, .ref b9, .ref b10, .int (nI cnt), .int th])), (b0, .inl (g.2.1, 720, .inl fY)), (b1, .inl (g.2.1, 6, .inl fM)), (b2, .inl (g.2.1, 6, .inl fA)), (b3, .inl (g.2.1, 6, .inl fR)), (b4, .inl (g.2.1, 6, .inl fL)), (b5, .inl (g.2.1, 6, .inl fD)), (b6, .inl (g.2.1, 6, .inl fH)), (b7, .inl (g.2.1, 6, .inl (upd fI k (I + ((nI (zWr rt py T (T - (P + 1)) + (py P))) - (nI (zWr rt py T (T - P)))))))), (b8, .inl (g.2.1, 6, .inl fW)), (b9, .inl (g.2.1, 6, .inl (upd fP k (Pd + (nI (py P)))))), (b10, .inl (g.2.1, 6, .inl fG))] H := hP
    have hD : va_D A [(mo, .inr (2, [.ref b0, .ref b1, .ref b2, .ref b3, .ref b4, .ref b5, .ref b6, .ref b7, .ref b8, .ref b9, .ref b10, .int (nI cnt), .int th])), (b0, .inl (g.2.1, 720, .inl fY)), (b1, .inl (g.2.1, 6, .inl fM)), (b2, .inl (g.2.1, 6, .inl fA)), (b3, .inl (g.2.1, 6, .inl fR)), (b4, .inl (g.2.1, 6, .inl fL)), (b5, .inl (g.2.1, 6, .inl fD)), (b6, .inl (g.2.1, 6, .inl fH)), (b7, .inl (g.2.1, 6, .inl (upd fI k (I + ((nI (zWr rt py T (T - (P + 1)) + (py P))) - (nI (zWr rt py T (T - P)))))))), (b8, .inl (g.2.1, 6, .inl fW)), (b9, .inl (g.2.1, 6, .inl (upd fP k (Pd + (nI (py P)))))), (b10, .inl (g.2.1, 6, .inl fG))] := hD
    refine lv_aload_n hx hb dX2_month_129 rfl (lv_at hl 3 rfl) ?_
    refine va_get (D := g.1) (ci := 2) (v := .ref b6) (C := RX2) (T := TX2) (N := 13) hx hb hts hinX2 hown hK hP 0 rfl rfl 6 (by decide) (hts (.fieldLink RX2 28 "UsewiseModel" "right" "[I") (by decide +kernel)) (fun _ h9 => h9) rfl dX2_month_130 ?_
    refine lv_iload_n hx hb dX2_month_133 rfl (lv_at hl 4 rfl) ?_
    refine lv_dup2_11 hx hb dX2_month_134 rfl rfl ?_
    refine z_iald hx hb hK hP 7 0 rfl rfl (by omega) (by decide) dX2_month_135 ?_
    refine zi (y := nI R0) (hmH) ?_
    refine lv_iload hx hb dX2_month_136 (lv_at hl 1 rfl) ?_
    refine z_isub hx hb dX2_month_138 (Nat.div_le_self _ _) ?_
    refine z_iast hx hb hK hP hD hS 7 0 rfl rfl (by omega) (by decide) dX2_month_139 (fun H locs hP hD hS => ?_)
    have hP : va_P g.1 vwCl [(mo, .inr (2, [.ref b0, .ref b1, .ref b2, .ref b3, .ref b4, .ref b5, .ref b6, .ref b7, .ref b8, .ref b9, .ref b10, .int (nI cnt), .int th])), (b0, .inl (g.2.1, 720, .inl fY)), (b1, .inl (g.2.1, 6, .inl fM)), (b2, .inl (g.2.1, 6, .inl fA)), (b3, .inl (g.2.1, 6, .inl fR)), (b4, .inl (g.2.1, 6, .inl fL)), (b5, .inl (g.2.1, 6, .inl fD)), (b6, .inl (g.2.1, 6, .inl (upd fH k (nI (R0 - (R0 / zMW lf T P)))))), (b7, .inl (g.2.1, 6, .inl (upd fI k (I + ((nI (zWr rt py T (T - (P + 1)) + (py P))) - (nI (zWr rt py T (T - P)))))))), (b8, .inl (g.2.1, 6, .inl fW)), (b9, .inl (g.2.1, 6, .inl (upd fP k (Pd + (nI (py P)))))), (b10, .inl (g.2.1, 6, .inl fG))] H := hP
    have hD : va_D A [(mo, .inr (2, [.ref b0, .ref b1, .ref b2, .ref b3, .ref b4, .ref b5, .ref b6, .ref b7, .ref b8, .ref b9, .ref b10, .int (nI cnt), .int th])), (b0, .inl (g.2.1, 720, .inl fY)), (b1, .inl (g.2.1, 6, .inl fM)), (b2, .inl (g.2.1, 6, .inl fA)), (b3, .inl (g.2.1, 6, .inl fR)), (b4, .inl (g.2.1, 6, .inl fL)), (b5, .inl (g.2.1, 6, .inl fD)), (b6, .inl (g.2.1, 6, .inl (upd fH k (nI (R0 - (R0 / zMW lf T P)))))), (b7, .inl (g.2.1, 6, .inl (upd fI k (I + ((nI (zWr rt py T (T - (P + 1)) + (py P))) - (nI (zWr rt py T (T - P)))))))), (b8, .inl (g.2.1, 6, .inl fW)), (b9, .inl (g.2.1, 6, .inl (upd fP k (Pd + (nI (py P)))))), (b10, .inl (g.2.1, 6, .inl fG))] := hD
    refine lv_aload_n hx hb dX2_month_140 rfl (lv_at hl 3 rfl) ?_
    refine va_get (D := g.1) (ci := 2) (v := .ref b8) (C := RX2) (T := TX2) (N := 13) hx hb hts hinX2 hown hK hP 0 rfl rfl 8 (by decide) (hts (.fieldLink RX2 34 "UsewiseModel" "written" "[I") (by decide +kernel)) (fun _ h9 => h9) rfl dX2_month_141 ?_
    refine lv_iload_n hx hb dX2_month_144 rfl (lv_at hl 4 rfl) ?_
    refine lv_dup2_11 hx hb dX2_month_145 rfl rfl ?_
    refine z_iald hx hb hK hP 9 0 rfl rfl (by omega) (by decide) dX2_month_146 ?_
    refine zi (y := Wn) (hmW) ?_
    refine lv_iload hx hb dX2_month_147 (lv_at hl 1 rfl) ?_
    refine lv_iadd hx hb dX2_month_149 ?_
    refine z_iast hx hb hK hP hD hS 9 0 rfl rfl (by omega) (by decide) dX2_month_150 (fun H locs hP hD hS => ?_)
    have hP : va_P g.1 vwCl [(mo, .inr (2, [.ref b0, .ref b1, .ref b2, .ref b3, .ref b4, .ref b5, .ref b6, .ref b7, .ref b8, .ref b9, .ref b10, .int (nI cnt), .int th])), (b0, .inl (g.2.1, 720, .inl fY)), (b1, .inl (g.2.1, 6, .inl fM)), (b2, .inl (g.2.1, 6, .inl fA)), (b3, .inl (g.2.1, 6, .inl fR)), (b4, .inl (g.2.1, 6, .inl fL)), (b5, .inl (g.2.1, 6, .inl fD)), (b6, .inl (g.2.1, 6, .inl (upd fH k (nI (R0 - (R0 / zMW lf T P)))))), (b7, .inl (g.2.1, 6, .inl (upd fI k (I + ((nI (zWr rt py T (T - (P + 1)) + (py P))) - (nI (zWr rt py T (T - P)))))))), (b8, .inl (g.2.1, 6, .inl (upd fW k (Wn + (nI (R0 / zMW lf T P)))))), (b9, .inl (g.2.1, 6, .inl (upd fP k (Pd + (nI (py P)))))), (b10, .inl (g.2.1, 6, .inl fG))] H := hP
    have hD : va_D A [(mo, .inr (2, [.ref b0, .ref b1, .ref b2, .ref b3, .ref b4, .ref b5, .ref b6, .ref b7, .ref b8, .ref b9, .ref b10, .int (nI cnt), .int th])), (b0, .inl (g.2.1, 720, .inl fY)), (b1, .inl (g.2.1, 6, .inl fM)), (b2, .inl (g.2.1, 6, .inl fA)), (b3, .inl (g.2.1, 6, .inl fR)), (b4, .inl (g.2.1, 6, .inl fL)), (b5, .inl (g.2.1, 6, .inl fD)), (b6, .inl (g.2.1, 6, .inl (upd fH k (nI (R0 - (R0 / zMW lf T P)))))), (b7, .inl (g.2.1, 6, .inl (upd fI k (I + ((nI (zWr rt py T (T - (P + 1)) + (py P))) - (nI (zWr rt py T (T - P)))))))), (b8, .inl (g.2.1, 6, .inl (upd fW k (Wn + (nI (R0 / zMW lf T P)))))), (b9, .inl (g.2.1, 6, .inl (upd fP k (Pd + (nI (py P)))))), (b10, .inl (g.2.1, 6, .inl fG))] := hD
    refine lv_aload_n hx hb dX2_month_151 rfl (lv_at hl 3 rfl) ?_
    refine va_get (D := g.1) (ci := 2) (v := .ref b5) (C := RX2) (T := TX2) (N := 13) hx hb hts hinX2 hown hK hP 0 rfl rfl 5 (by decide) (hts (.fieldLink RX2 25 "UsewiseModel" "debt" "[I") (by decide +kernel)) (fun _ h9 => h9) rfl dX2_month_152 ?_
    refine lv_iload_n hx hb dX2_month_155 rfl (lv_at hl 4 rfl) ?_
    refine lv_iload hx hb dX2_month_156 (lv_at hl 0 rfl) ?_
    refine z_iast hx hb hK hP hD hS 6 0 rfl rfl (by omega) (by decide) dX2_month_158 (fun H locs hP hD hS => ?_)
    have hP : va_P g.1 vwCl [(mo, .inr (2, [.ref b0, .ref b1, .ref b2, .ref b3, .ref b4, .ref b5, .ref b6, .ref b7, .ref b8, .ref b9, .ref b10, .int (nI cnt), .int th])), (b0, .inl (g.2.1, 720, .inl fY)), (b1, .inl (g.2.1, 6, .inl fM)), (b2, .inl (g.2.1, 6, .inl fA)), (b3, .inl (g.2.1, 6, .inl fR)), (b4, .inl (g.2.1, 6, .inl fL)), (b5, .inl (g.2.1, 6, .inl (upd fD k (nI (zWr rt py T (T - (P + 1))))))), (b6, .inl (g.2.1, 6, .inl (upd fH k (nI (R0 - (R0 / zMW lf T P)))))), (b7, .inl (g.2.1, 6, .inl (upd fI k (I + ((nI (zWr rt py T (T - (P + 1)) + (py P))) - (nI (zWr rt py T (T - P)))))))), (b8, .inl (g.2.1, 6, .inl (upd fW k (Wn + (nI (R0 / zMW lf T P)))))), (b9, .inl (g.2.1, 6, .inl (upd fP k (Pd + (nI (py P)))))), (b10, .inl (g.2.1, 6, .inl fG))] H := hP
    have hD : va_D A [(mo, .inr (2, [.ref b0, .ref b1, .ref b2, .ref b3, .ref b4, .ref b5, .ref b6, .ref b7, .ref b8, .ref b9, .ref b10, .int (nI cnt), .int th])), (b0, .inl (g.2.1, 720, .inl fY)), (b1, .inl (g.2.1, 6, .inl fM)), (b2, .inl (g.2.1, 6, .inl fA)), (b3, .inl (g.2.1, 6, .inl fR)), (b4, .inl (g.2.1, 6, .inl fL)), (b5, .inl (g.2.1, 6, .inl (upd fD k (nI (zWr rt py T (T - (P + 1))))))), (b6, .inl (g.2.1, 6, .inl (upd fH k (nI (R0 - (R0 / zMW lf T P)))))), (b7, .inl (g.2.1, 6, .inl (upd fI k (I + ((nI (zWr rt py T (T - (P + 1)) + (py P))) - (nI (zWr rt py T (T - P)))))))), (b8, .inl (g.2.1, 6, .inl (upd fW k (Wn + (nI (R0 / zMW lf T P)))))), (b9, .inl (g.2.1, 6, .inl (upd fP k (Pd + (nI (py P)))))), (b10, .inl (g.2.1, 6, .inl fG))] := hD
    refine lv_aload_n hx hb dX2_month_159 rfl (lv_at hl 3 rfl) ?_
    refine va_get (D := g.1) (ci := 2) (v := .ref b2) (C := RX2) (T := TX2) (N := 13) hx hb hts hinX2 hown hK hP 0 rfl rfl 2 (by decide) (hts (.fieldLink RX2 16 "UsewiseModel" "past" "[I") (by decide +kernel)) (fun _ h9 => h9) rfl dX2_month_160 ?_
    refine lv_iload_n hx hb dX2_month_163 rfl (lv_at hl 4 rfl) ?_
    refine lv_dup2_11 hx hb dX2_month_164 rfl rfl ?_
    refine z_iald hx hb hK hP 3 0 rfl rfl (by omega) (by decide) dX2_month_165 ?_
    refine zi (y := nI P) (hmA) ?_
    refine lv_iconst (v := nI 1) hx hb dX2_month_166 (by decide) ?_
    refine z_iadd hx hb dX2_month_167 ?_
    refine z_iast hx hb hK hP hD hS 3 0 rfl rfl (by omega) (by decide) dX2_month_168 (fun H locs hP hD hS => ?_)
    have hP : va_P g.1 vwCl [(mo, .inr (2, [.ref b0, .ref b1, .ref b2, .ref b3, .ref b4, .ref b5, .ref b6, .ref b7, .ref b8, .ref b9, .ref b10, .int (nI cnt), .int th])), (b0, .inl (g.2.1, 720, .inl fY)), (b1, .inl (g.2.1, 6, .inl fM)), (b2, .inl (g.2.1, 6, .inl (upd fA k (nI (P + 1))))), (b3, .inl (g.2.1, 6, .inl fR)), (b4, .inl (g.2.1, 6, .inl fL)), (b5, .inl (g.2.1, 6, .inl (upd fD k (nI (zWr rt py T (T - (P + 1))))))), (b6, .inl (g.2.1, 6, .inl (upd fH k (nI (R0 - (R0 / zMW lf T P)))))), (b7, .inl (g.2.1, 6, .inl (upd fI k (I + ((nI (zWr rt py T (T - (P + 1)) + (py P))) - (nI (zWr rt py T (T - P)))))))), (b8, .inl (g.2.1, 6, .inl (upd fW k (Wn + (nI (R0 / zMW lf T P)))))), (b9, .inl (g.2.1, 6, .inl (upd fP k (Pd + (nI (py P)))))), (b10, .inl (g.2.1, 6, .inl fG))] H := hP
    have hD : va_D A [(mo, .inr (2, [.ref b0, .ref b1, .ref b2, .ref b3, .ref b4, .ref b5, .ref b6, .ref b7, .ref b8, .ref b9, .ref b10, .int (nI cnt), .int th])), (b0, .inl (g.2.1, 720, .inl fY)), (b1, .inl (g.2.1, 6, .inl fM)), (b2, .inl (g.2.1, 6, .inl (upd fA k (nI (P + 1))))), (b3, .inl (g.2.1, 6, .inl fR)), (b4, .inl (g.2.1, 6, .inl fL)), (b5, .inl (g.2.1, 6, .inl (upd fD k (nI (zWr rt py T (T - (P + 1))))))), (b6, .inl (g.2.1, 6, .inl (upd fH k (nI (R0 - (R0 / zMW lf T P)))))), (b7, .inl (g.2.1, 6, .inl (upd fI k (I + ((nI (zWr rt py T (T - (P + 1)) + (py P))) - (nI (zWr rt py T (T - P)))))))), (b8, .inl (g.2.1, 6, .inl (upd fW k (Wn + (nI (R0 / zMW lf T P)))))), (b9, .inl (g.2.1, 6, .inl (upd fP k (Pd + (nI (py P)))))), (b10, .inl (g.2.1, 6, .inl fG))] := hD
    exact z_vret hx hb hr hP hK hD hS dX2_month_169 hlocks (⟨(fY, fM, upd fA k (nI (P + 1)), fR, fL, upd fD k (nI (zWr rt py T (T - (P + 1)))), upd fH k (nI (R0 - (R0 / zMW lf T P))), upd fI k (I + ((nI (zWr rt py T (T - (P + 1)) + (py P))) - (nI (zWr rt py T (T - P))))), upd fW k (Wn + (nI (R0 / zMW lf T P))), upd fP k (Pd + (nI (py P))), fG), rfl, ⟨hmM, z_upd_s _ _ _, hmR, hmL, z_upd_s _ _ _, z_upd_s _ _ _, (z_upd_s _ _ _).trans (by rw [← nI_add]), z_upd_s _ _ _, z_upd_s _ _ _, hmG, fun j h1 h2 => hmY j (by omega) h2⟩, fun i _ hi => ⟨rfl, z_upd_n _ _ hi, rfl, rfl, z_upd_n _ _ hi, z_upd_n _ _ hi, z_upd_n _ _ hi, z_upd_n _ _ hi, z_upd_n _ _ hi, rfl, fun _ _ => rfl⟩⟩)
  refine lv_icmp_ge (tgt := 48) hx hb dX2_month_41 (by decide) (fun hc => ?_) (fun hc => ?_)
  · rw [Int32.le_iff_toInt_le, pk_sub_toInt (by omega) (by omega), nI_toInt (by omega)] at hc
    refine lv_iload hx hb dX2_month_48 (lv_at hl 0 rfl) ?_
    refine lv_istore (lv' := [(5, .int ((nI lf) - (nI P))), (4, .int ((nI lf) - (nI P))), (3, .int (nI (T - P))), (2, .int (nI (py P))), (0, .ref mo), (1, .int (nI k))]) hx hb dX2_month_50 hl (by decide) rfl (fun ls hl => ?_)
    refine lv_iload hx hb dX2_month_52 (lv_at hl 0 rfl) ?_
    refine lv_iconst (v := nI 1) hx hb dX2_month_54 (by decide) ?_
    refine lv_icmp_ge (tgt := 67) hx hb dX2_month_55 (by decide) (fun hd => ?_) (fun hd => ?_)
    · rw [Int32.le_iff_toInt_le, pk_sub_toInt (by omega) (by omega), nI_toInt (by decide)] at hd
      refine lv_aload_n hx hb dX2_month_67 rfl (lv_at hl 4 rfl) ?_
      refine va_get (D := g.1) (ci := 2) (v := .ref b6) (C := RX2) (T := TX2) (N := 13) hx hb hts hinX2 hown hK hP 0 rfl rfl 6 (by decide) (hts (.fieldLink RX2 28 "UsewiseModel" "right" "[I") (by decide +kernel)) (fun _ h9 => h9) rfl dX2_month_68 ?_
      refine lv_iload_n hx hb dX2_month_71 rfl (lv_at hl 5 rfl) ?_
      refine z_iald hx hb hK hP 7 0 rfl rfl (by omega) (by decide) dX2_month_72 ?_
      refine zi (y := nI R0) (hmH) ?_
      refine lv_iload hx hb dX2_month_73 (lv_at hl 0 rfl) ?_
      refine zi (y := nI (lf - P)) (pk_sub (by omega)) ?_
      refine z_idiv hx hb dX2_month_75 (by omega) (by omega) (by omega) ?_
      refine zi (y := nI (R0 / zMW lf T P)) (by rw [show lf - P = zMW lf T P by omega]) ?_
      exact tail _ (lv_sub hl [3, 4, 5] rfl)
    · rw [Int32.le_iff_toInt_le, pk_sub_toInt (by omega) (by omega), nI_toInt (by decide)] at hd
      refine lv_aload_n hx hb dX2_month_58 rfl (lv_at hl 4 rfl) ?_
      refine va_get (D := g.1) (ci := 2) (v := .ref b6) (C := RX2) (T := TX2) (N := 13) hx hb hts hinX2 hown hK hP 0 rfl rfl 6 (by decide) (hts (.fieldLink RX2 28 "UsewiseModel" "right" "[I") (by decide +kernel)) (fun _ h9 => h9) rfl dX2_month_59 ?_
      refine lv_iload_n hx hb dX2_month_62 rfl (lv_at hl 5 rfl) ?_
      refine z_iald hx hb hK hP 7 0 rfl rfl (by omega) (by decide) dX2_month_63 ?_
      refine zi (y := nI R0) (hmH) ?_
      refine lv_goto (tgt := 76) hx hb dX2_month_64 (by decide) ?_
      refine zi (y := nI (R0 / zMW lf T P)) (by rw [show zMW lf T P = 1 by omega, Nat.div_one]) ?_
      exact tail _ (lv_sub hl [3, 4, 5] rfl)
  · rw [Int32.le_iff_toInt_le, pk_sub_toInt (by omega) (by omega), nI_toInt (by omega)] at hc
    refine lv_iload_n hx hb dX2_month_44 rfl (lv_at hl 1 rfl) ?_
    refine lv_goto (tgt := 50) hx hb dX2_month_45 (by decide) ?_
    refine lv_istore (lv' := [(5, .int (nI (T - P))), (4, .int ((nI lf) - (nI P))), (3, .int (nI (T - P))), (2, .int (nI (py P))), (0, .ref mo), (1, .int (nI k))]) hx hb dX2_month_50 hl (by decide) rfl (fun ls hl => ?_)
    refine lv_iload hx hb dX2_month_52 (lv_at hl 0 rfl) ?_
    refine lv_iconst (v := nI 1) hx hb dX2_month_54 (by decide) ?_
    refine z_icmp_ge (tgt := 67) hx hb dX2_month_55 (by decide) (by omega) (by omega) (fun hd => ?_) (fun hd => ?_)
    · refine lv_aload_n hx hb dX2_month_67 rfl (lv_at hl 4 rfl) ?_
      refine va_get (D := g.1) (ci := 2) (v := .ref b6) (C := RX2) (T := TX2) (N := 13) hx hb hts hinX2 hown hK hP 0 rfl rfl 6 (by decide) (hts (.fieldLink RX2 28 "UsewiseModel" "right" "[I") (by decide +kernel)) (fun _ h9 => h9) rfl dX2_month_68 ?_
      refine lv_iload_n hx hb dX2_month_71 rfl (lv_at hl 5 rfl) ?_
      refine z_iald hx hb hK hP 7 0 rfl rfl (by omega) (by decide) dX2_month_72 ?_
      refine zi (y := nI R0) (hmH) ?_
      refine lv_iload hx hb dX2_month_73 (lv_at hl 0 rfl) ?_
      refine z_idiv hx hb dX2_month_75 (by omega) (by omega) (by omega) ?_
      refine zi (y := nI (R0 / zMW lf T P)) (by rw [show T - P = zMW lf T P by omega]) ?_
      exact tail _ (lv_sub hl [3, 4, 5] rfl)
    · exact absurd hd (by omega)

set_option maxHeartbeats 4000000 in
set_option maxRecDepth 100000 in
theorem m_laidAgain (l : Launch) (g : zG) (mo b0 b1 b2 b3 b4 b5 b6 b7 b8 b9 b10 cnt : Nat) (th : Int32) (fY fM fA fR fL fD fH fI fW fP fG : Nat → Int32) (k rt T P R0 D0 : Nat) (py : Nat → Nat) (G : Int32) (hk : k < 6) (hmM : fM k = nI T) (hmA : fA k = nI P) (hmR : fR k = nI rt) (hmD : fD k = nI D0) (hmH : fH k = nI R0) (hmG : fG k = G) (hT : T ≤ 120) (hPT : P ≤ T) (hrt : rt ≤ 20000) (hp : ∀ j, P ≤ j → j < T → py j ≤ 1000000) (hmY : ∀ j, P ≤ j → j < T → fY (120 * k + j) = nI (py j)) (hD0 : D0 ≤ 120000000) (hR2 : R0 ≤ 240000000) : zMi l yX2_laidAgain wsX2_laidAgain ({ frames := 2, cells := 0, slots := 0, locals := 56 } : Room) [.ref mo, .int (nI k)] g [(mo, .inr (2, [.ref b0, .ref b1, .ref b2, .ref b3, .ref b4, .ref b5, .ref b6, .ref b7, .ref b8, .ref b9, .ref b10, .int (nI cnt), .int th])), (b0, .inl (g.2.1, 720, .inl fY)), (b1, .inl (g.2.1, 6, .inl fM)), (b2, .inl (g.2.1, 6, .inl fA)), (b3, .inl (g.2.1, 6, .inl fR)), (b4, .inl (g.2.1, 6, .inl fL)), (b5, .inl (g.2.1, 6, .inl fD)), (b6, .inl (g.2.1, 6, .inl fH)), (b7, .inl (g.2.1, 6, .inl fI)), (b8, .inl (g.2.1, 6, .inl fW)), (b9, .inl (g.2.1, 6, .inl fP)), (b10, .inl (g.2.1, 6, .inl fG))] (fun q w => q = nI (zWr rt py T (T - P)) ∧ ∃ (R1 : Nat) (G1 : Int32) (gD gH gG : Nat → Int32), w = [(mo, .inr (2, [.ref b0, .ref b1, .ref b2, .ref b3, .ref b4, .ref b5, .ref b6, .ref b7, .ref b8, .ref b9, .ref b10, .int (nI cnt), .int th])), (b0, .inl (g.2.1, 720, .inl fY)), (b1, .inl (g.2.1, 6, .inl fM)), (b2, .inl (g.2.1, 6, .inl fA)), (b3, .inl (g.2.1, 6, .inl fR)), (b4, .inl (g.2.1, 6, .inl fL)), (b5, .inl (g.2.1, 6, .inl gD)), (b6, .inl (g.2.1, 6, .inl gH)), (b7, .inl (g.2.1, 6, .inl fI)), (b8, .inl (g.2.1, 6, .inl fW)), (b9, .inl (g.2.1, 6, .inl fP)), (b10, .inl (g.2.1, 6, .inl gG))] ∧ gD k = nI (zWr rt py T (T - P)) ∧ gH k = nI R1 ∧ gG k = G1 ∧ (∀ i, i ≠ k → gD i = fD i ∧ gH i = fH i ∧ gG i = fG i) ∧ ((R0 + zWr rt py T (T - P) < D0 ∧ R1 = 0 ∧ G1 = G - (nI R0 + (nI (zWr rt py T (T - P)) - nI D0))) ∨ (D0 ≤ R0 + zWr rt py T (T - P) ∧ R1 = R0 + zWr rt py T (T - P) - D0 ∧ G1 = G))) 0 0 := by
  intro sz A hAe
  refine Met.ofW (cc := cX2_laidAgain) (maxL := 3) (ret := some .int) (by decide) rfl ?_
  intro p e s m args below meth c s₁ B hml hv
  obtain ⟨rfl, hsz, hP, hK, hD0⟩ := hv
  have hx := B.exec
  have hb := B.bytes
  have hr := B.returns
  have hts := atoms_spec (ws := wsX2_laidAgain) B.pre
  have hown : s.vm.findClass RX2 = some m.cls := findClass_of_methodNamed B.named
  have hlocks := B.notSynchronized
  obtain ⟨hD, hA, hS⟩ := z_in hsz hAe hD0
  have hl := lv_entry ([.ref mo, .int (nI k)]) (n := 3) (Nat.le_of_ble_eq_true rfl)
  rw [lg_entry_eq]
  generalize (lg_sl ([.ref mo, .int (nI k)]) ++ List.replicate (3 - (lg_sl ([.ref mo, .int (nI k)])).length) Slot.unset).toArray = ls at hl ⊢
  have hl : lv_has ls 3 [(0, .ref mo), (1, .int (nI k))] := hl
  have hinX2 : ∀ w ∈ wsX20, w ∈ wsX2_laidAgain := by decide +kernel
  have hD1 := z_wb (r := rt) (j := P) hT hp (Nat.le_refl P)
  refine lv_aload_n hx hb dX2_laidAgain_0 rfl (lv_at hl 0 rfl) ?_
  refine lv_iload_n hx hb dX2_laidAgain_1 rfl (lv_at hl 1 rfl) ?_
  refine z_ai (wa := []) (wc := [(mo, .inr (2, [.ref b0, .ref b1, .ref b2, .ref b3, .ref b4, .ref b5, .ref b6, .ref b7, .ref b8, .ref b9, .ref b10, .int (nI cnt), .int th])), (b0, .inl (g.2.1, 720, .inl fY)), (b1, .inl (g.2.1, 6, .inl fM)), (b2, .inl (g.2.1, 6, .inl fA)), (b3, .inl (g.2.1, 6, .inl fR)), (b4, .inl (g.2.1, 6, .inl fL)), (b5, .inl (g.2.1, 6, .inl fD)), (b6, .inl (g.2.1, 6, .inl fH)), (b7, .inl (g.2.1, 6, .inl fI)), (b8, .inl (g.2.1, 6, .inl fW)), (b9, .inl (g.2.1, 6, .inl fP)), (b10, .inl (g.2.1, 6, .inl fG))]) (wb := []) (va_runV (As := [.int (nI k)]) (rest := []) ⟨hx, hb, hml, hown, hts⟩ (m_worthNow l g mo b0 b1 b2 b3 b4 b5 b6 b7 b8 b9 b10 cnt th fY fM fA fR fL fD fH fI fW fP fG k rt T P py hk hmM hmA hmR hT hPT hrt hp hmY s.heap.size _ rfl) (cwV 1 hts gX2_laidAgain_X2_worthNow rfl rfl rfl (by decide +kernel) ⟨Nat.le_of_ble_eq_true rfl, Nat.le_of_ble_eq_true rfl⟩) (zpreV (wa := []) (wc := [(mo, .inr (2, [.ref b0, .ref b1, .ref b2, .ref b3, .ref b4, .ref b5, .ref b6, .ref b7, .ref b8, .ref b9, .ref b10, .int (nI cnt), .int th])), (b0, .inl (g.2.1, 720, .inl fY)), (b1, .inl (g.2.1, 6, .inl fM)), (b2, .inl (g.2.1, 6, .inl fA)), (b3, .inl (g.2.1, 6, .inl fR)), (b4, .inl (g.2.1, 6, .inl fL)), (b5, .inl (g.2.1, 6, .inl fD)), (b6, .inl (g.2.1, 6, .inl fH)), (b7, .inl (g.2.1, 6, .inl fI)), (b8, .inl (g.2.1, 6, .inl fW)), (b9, .inl (g.2.1, 6, .inl fP)), (b10, .inl (g.2.1, 6, .inl fG))]) (wb := []) (q0 := 0) (ci := 2) (T := TX2) (N := 13) hK hP hD rfl rfl) rfl rfl hl.1 rfl (lv_room (Nat.le_of_ble_eq_true rfl)) dX2_laidAgain_2 ⟨Nat.le_of_ble_eq_true rfl, Nat.le_of_ble_eq_true rfl⟩) hP hD hS hA (fun r_1 w1 H locs hq hP hD hS => ?_)
  obtain ⟨rfl, rfl⟩ := hq
  have hP : va_P g.1 vwCl [(mo, .inr (2, [.ref b0, .ref b1, .ref b2, .ref b3, .ref b4, .ref b5, .ref b6, .ref b7, .ref b8, .ref b9, .ref b10, .int (nI cnt), .int th])), (b0, .inl (g.2.1, 720, .inl fY)), (b1, .inl (g.2.1, 6, .inl fM)), (b2, .inl (g.2.1, 6, .inl fA)), (b3, .inl (g.2.1, 6, .inl fR)), (b4, .inl (g.2.1, 6, .inl fL)), (b5, .inl (g.2.1, 6, .inl fD)), (b6, .inl (g.2.1, 6, .inl fH)), (b7, .inl (g.2.1, 6, .inl fI)), (b8, .inl (g.2.1, 6, .inl fW)), (b9, .inl (g.2.1, 6, .inl fP)), (b10, .inl (g.2.1, 6, .inl fG))] H := hP
  have hD : va_D A [(mo, .inr (2, [.ref b0, .ref b1, .ref b2, .ref b3, .ref b4, .ref b5, .ref b6, .ref b7, .ref b8, .ref b9, .ref b10, .int (nI cnt), .int th])), (b0, .inl (g.2.1, 720, .inl fY)), (b1, .inl (g.2.1, 6, .inl fM)), (b2, .inl (g.2.1, 6, .inl fA)), (b3, .inl (g.2.1, 6, .inl fR)), (b4, .inl (g.2.1, 6, .inl fL)), (b5, .inl (g.2.1, 6, .inl fD)), (b6, .inl (g.2.1, 6, .inl fH)), (b7, .inl (g.2.1, 6, .inl fI)), (b8, .inl (g.2.1, 6, .inl fW)), (b9, .inl (g.2.1, 6, .inl fP)), (b10, .inl (g.2.1, 6, .inl fG))] := hD
  refine lv_istore_n (lv' := [(2, .int (nI (zWr rt py T (T - P)))), (0, .ref mo), (1, .int (nI k))]) hx hb dX2_laidAgain_5 rfl hl (by decide) rfl (fun ls hl => ?_)
  refine lv_aload_n hx hb dX2_laidAgain_6 rfl (lv_at hl 1 rfl) ?_
  refine va_get (D := g.1) (ci := 2) (v := .ref b6) (C := RX2) (T := TX2) (N := 13) hx hb hts hinX2 hown hK hP 0 rfl rfl 6 (by decide) (hts (.fieldLink RX2 28 "UsewiseModel" "right" "[I") (by decide +kernel)) (fun _ h9 => h9) rfl dX2_laidAgain_7 ?_
  refine lv_iload_n hx hb dX2_laidAgain_10 rfl (lv_at hl 2 rfl) ?_
  refine lv_dup2_11 hx hb dX2_laidAgain_11 rfl rfl ?_
  refine z_iald hx hb hK hP 7 0 rfl rfl (by omega) (by decide) dX2_laidAgain_12 ?_
  refine zi (y := nI R0) (hmH) ?_
  refine lv_iload_n hx hb dX2_laidAgain_13 rfl (lv_at hl 0 rfl) ?_
  refine lv_aload_n hx hb dX2_laidAgain_14 rfl (lv_at hl 1 rfl) ?_
  refine va_get (D := g.1) (ci := 2) (v := .ref b5) (C := RX2) (T := TX2) (N := 13) hx hb hts hinX2 hown hK hP 0 rfl rfl 5 (by decide) (hts (.fieldLink RX2 25 "UsewiseModel" "debt" "[I") (by decide +kernel)) (fun _ h9 => h9) rfl dX2_laidAgain_15 ?_
  refine lv_iload_n hx hb dX2_laidAgain_18 rfl (lv_at hl 2 rfl) ?_
  refine z_iald hx hb hK hP 6 0 rfl rfl (by omega) (by decide) dX2_laidAgain_19 ?_
  refine zi (y := nI D0) (hmD) ?_
  refine lv_isub hx hb dX2_laidAgain_20 ?_
  refine lv_iadd hx hb dX2_laidAgain_21 ?_
  refine z_iast hx hb hK hP hD hS 7 0 rfl rfl (by omega) (by decide) dX2_laidAgain_22 (fun H locs hP hD hS => ?_)
  have hP : va_P g.1 vwCl [(mo, .inr (2, [.ref b0, .ref b1, .ref b2, .ref b3, .ref b4, .ref b5, .ref b6, .ref b7, .ref b8, .ref b9, .ref b10, .int (nI cnt), .int th])), (b0, .inl (g.2.1, 720, .inl fY)), (b1, .inl (g.2.1, 6, .inl fM)), (b2, .inl (g.2.1, 6, .inl fA)), (b3, .inl (g.2.1, 6, .inl fR)), (b4, .inl (g.2.1, 6, .inl fL)), (b5, .inl (g.2.1, 6, .inl fD)), (b6, .inl (g.2.1, 6, .inl (upd fH k ((nI R0) + ((nI (zWr rt py T (T - P))) - (nI D0)))))), (b7, .inl (g.2.1, 6, .inl fI)), (b8, .inl (g.2.1, 6, .inl fW)), (b9, .inl (g.2.1, 6, .inl fP)), (b10, .inl (g.2.1, 6, .inl fG))] H := hP
  have hD : va_D A [(mo, .inr (2, [.ref b0, .ref b1, .ref b2, .ref b3, .ref b4, .ref b5, .ref b6, .ref b7, .ref b8, .ref b9, .ref b10, .int (nI cnt), .int th])), (b0, .inl (g.2.1, 720, .inl fY)), (b1, .inl (g.2.1, 6, .inl fM)), (b2, .inl (g.2.1, 6, .inl fA)), (b3, .inl (g.2.1, 6, .inl fR)), (b4, .inl (g.2.1, 6, .inl fL)), (b5, .inl (g.2.1, 6, .inl fD)), (b6, .inl (g.2.1, 6, .inl (upd fH k ((nI R0) + ((nI (zWr rt py T (T - P))) - (nI D0)))))), (b7, .inl (g.2.1, 6, .inl fI)), (b8, .inl (g.2.1, 6, .inl fW)), (b9, .inl (g.2.1, 6, .inl fP)), (b10, .inl (g.2.1, 6, .inl fG))] := hD
  refine lv_aload_n hx hb dX2_laidAgain_23 rfl (lv_at hl 1 rfl) ?_
  refine va_get (D := g.1) (ci := 2) (v := .ref b5) (C := RX2) (T := TX2) (N := 13) hx hb hts hinX2 hown hK hP 0 rfl rfl 5 (by decide) (hts (.fieldLink RX2 25 "UsewiseModel" "debt" "[I") (by decide +kernel)) (fun _ h9 => h9) rfl dX2_laidAgain_24 ?_
  refine lv_iload_n hx hb dX2_laidAgain_27 rfl (lv_at hl 2 rfl) ?_
  refine lv_iload_n hx hb dX2_laidAgain_28 rfl (lv_at hl 0 rfl) ?_
  refine z_iast hx hb hK hP hD hS 6 0 rfl rfl (by omega) (by decide) dX2_laidAgain_29 (fun H locs hP hD hS => ?_)
  have hP : va_P g.1 vwCl [(mo, .inr (2, [.ref b0, .ref b1, .ref b2, .ref b3, .ref b4, .ref b5, .ref b6, .ref b7, .ref b8, .ref b9, .ref b10, .int (nI cnt), .int th])), (b0, .inl (g.2.1, 720, .inl fY)), (b1, .inl (g.2.1, 6, .inl fM)), (b2, .inl (g.2.1, 6, .inl fA)), (b3, .inl (g.2.1, 6, .inl fR)), (b4, .inl (g.2.1, 6, .inl fL)), (b5, .inl (g.2.1, 6, .inl (upd fD k (nI (zWr rt py T (T - P)))))), (b6, .inl (g.2.1, 6, .inl (upd fH k ((nI R0) + ((nI (zWr rt py T (T - P))) - (nI D0)))))), (b7, .inl (g.2.1, 6, .inl fI)), (b8, .inl (g.2.1, 6, .inl fW)), (b9, .inl (g.2.1, 6, .inl fP)), (b10, .inl (g.2.1, 6, .inl fG))] H := hP
  have hD : va_D A [(mo, .inr (2, [.ref b0, .ref b1, .ref b2, .ref b3, .ref b4, .ref b5, .ref b6, .ref b7, .ref b8, .ref b9, .ref b10, .int (nI cnt), .int th])), (b0, .inl (g.2.1, 720, .inl fY)), (b1, .inl (g.2.1, 6, .inl fM)), (b2, .inl (g.2.1, 6, .inl fA)), (b3, .inl (g.2.1, 6, .inl fR)), (b4, .inl (g.2.1, 6, .inl fL)), (b5, .inl (g.2.1, 6, .inl (upd fD k (nI (zWr rt py T (T - P)))))), (b6, .inl (g.2.1, 6, .inl (upd fH k ((nI R0) + ((nI (zWr rt py T (T - P))) - (nI D0)))))), (b7, .inl (g.2.1, 6, .inl fI)), (b8, .inl (g.2.1, 6, .inl fW)), (b9, .inl (g.2.1, 6, .inl fP)), (b10, .inl (g.2.1, 6, .inl fG))] := hD
  refine lv_aload_n hx hb dX2_laidAgain_30 rfl (lv_at hl 1 rfl) ?_
  refine va_get (D := g.1) (ci := 2) (v := .ref b6) (C := RX2) (T := TX2) (N := 13) hx hb hts hinX2 hown hK hP 0 rfl rfl 6 (by decide) (hts (.fieldLink RX2 28 "UsewiseModel" "right" "[I") (by decide +kernel)) (fun _ h9 => h9) rfl dX2_laidAgain_31 ?_
  refine lv_iload_n hx hb dX2_laidAgain_34 rfl (lv_at hl 2 rfl) ?_
  refine z_iald hx hb hK hP 7 0 rfl rfl (by omega) (by decide) dX2_laidAgain_35 ?_
  refine zi (y := (nI R0) + ((nI (zWr rt py T (T - P))) - (nI D0))) (z_upd_s _ _ _) ?_
  refine lv_if_ge (tgt := 61) hx hb dX2_laidAgain_36 (by decide) (fun hc => ?_) (fun hc => ?_)
  · have hc2 : D0 ≤ R0 + zWr rt py T (T - P) := by
      rcases Nat.lt_or_ge (R0 + zWr rt py T (T - P)) D0 with z | z
      · have := z_fol4 z (by omega); rw [Int32.lt_iff_toInt_lt] at this; rw [Int32.le_iff_toInt_le] at hc; omega
      · exact z
    refine lv_iload_n hx hb dX2_laidAgain_61 rfl (lv_at hl 0 rfl) ?_
    exact z_iret hx hb hr hP hK hD hS dX2_laidAgain_62 hlocks (⟨rfl, _, G, _, _, _, rfl, z_upd_s _ _ _, (z_upd_s _ _ _).trans (z_fol3 hc2), hmG, fun i hi => ⟨z_upd_n _ _ hi, z_upd_n _ _ hi, rfl⟩, Or.inr ⟨hc2, rfl, rfl⟩⟩)
  · have hc2 : R0 + zWr rt py T (T - P) < D0 := by
      rcases Nat.lt_or_ge (R0 + zWr rt py T (T - P)) D0 with z | z
      · exact z
      · rw [z_fol3 z] at hc; exact absurd (nI_pos' (by omega)) hc
    refine lv_aload_n hx hb dX2_laidAgain_39 rfl (lv_at hl 1 rfl) ?_
    refine va_get (D := g.1) (ci := 2) (v := .ref b10) (C := RX2) (T := TX2) (N := 13) hx hb hts hinX2 hown hK hP 0 rfl rfl 10 (by decide) (hts (.fieldLink RX2 40 "UsewiseModel" "gains" "[I") (by decide +kernel)) (fun _ h9 => h9) rfl dX2_laidAgain_40 ?_
    refine lv_iload_n hx hb dX2_laidAgain_43 rfl (lv_at hl 2 rfl) ?_
    refine lv_dup2_11 hx hb dX2_laidAgain_44 rfl rfl ?_
    refine z_iald hx hb hK hP 11 0 rfl rfl (by omega) (by decide) dX2_laidAgain_45 ?_
    refine zi (y := G) (hmG) ?_
    refine lv_aload_n hx hb dX2_laidAgain_46 rfl (lv_at hl 1 rfl) ?_
    refine va_get (D := g.1) (ci := 2) (v := .ref b6) (C := RX2) (T := TX2) (N := 13) hx hb hts hinX2 hown hK hP 0 rfl rfl 6 (by decide) (hts (.fieldLink RX2 28 "UsewiseModel" "right" "[I") (by decide +kernel)) (fun _ h9 => h9) rfl dX2_laidAgain_47 ?_
    refine lv_iload_n hx hb dX2_laidAgain_50 rfl (lv_at hl 2 rfl) ?_
    refine z_iald hx hb hK hP 7 0 rfl rfl (by omega) (by decide) dX2_laidAgain_51 ?_
    refine zi (y := (nI R0) + ((nI (zWr rt py T (T - P))) - (nI D0))) (z_upd_s _ _ _) ?_
    refine lv_isub hx hb dX2_laidAgain_52 ?_
    refine z_iast hx hb hK hP hD hS 11 0 rfl rfl (by omega) (by decide) dX2_laidAgain_53 (fun H locs hP hD hS => ?_)
    have hP : va_P g.1 vwCl [(mo, .inr (2, [.ref b0, .ref b1, .ref b2, .ref b3, .ref b4, .ref b5, .ref b6, .ref b7, .ref b8, .ref b9, .ref b10, .int (nI cnt), .int th])), (b0, .inl (g.2.1, 720, .inl fY)), (b1, .inl (g.2.1, 6, .inl fM)), (b2, .inl (g.2.1, 6, .inl fA)), (b3, .inl (g.2.1, 6, .inl fR)), (b4, .inl (g.2.1, 6, .inl fL)), (b5, .inl (g.2.1, 6, .inl (upd fD k (nI (zWr rt py T (T - P)))))), (b6, .inl (g.2.1, 6, .inl (upd fH k ((nI R0) + ((nI (zWr rt py T (T - P))) - (nI D0)))))), (b7, .inl (g.2.1, 6, .inl fI)), (b8, .inl (g.2.1, 6, .inl fW)), (b9, .inl (g.2.1, 6, .inl fP)), (b10, .inl (g.2.1, 6, .inl (upd fG k (G - ((nI R0) + ((nI (zWr rt py T (T - P))) - (nI D0)))))))] H := hP
    have hD : va_D A [(mo, .inr (2, [.ref b0, .ref b1, .ref b2, .ref b3, .ref b4, .ref b5, .ref b6, .ref b7, .ref b8, .ref b9, .ref b10, .int (nI cnt), .int th])), (b0, .inl (g.2.1, 720, .inl fY)), (b1, .inl (g.2.1, 6, .inl fM)), (b2, .inl (g.2.1, 6, .inl fA)), (b3, .inl (g.2.1, 6, .inl fR)), (b4, .inl (g.2.1, 6, .inl fL)), (b5, .inl (g.2.1, 6, .inl (upd fD k (nI (zWr rt py T (T - P)))))), (b6, .inl (g.2.1, 6, .inl (upd fH k ((nI R0) + ((nI (zWr rt py T (T - P))) - (nI D0)))))), (b7, .inl (g.2.1, 6, .inl fI)), (b8, .inl (g.2.1, 6, .inl fW)), (b9, .inl (g.2.1, 6, .inl fP)), (b10, .inl (g.2.1, 6, .inl (upd fG k (G - ((nI R0) + ((nI (zWr rt py T (T - P))) - (nI D0)))))))] := hD
    refine lv_aload_n hx hb dX2_laidAgain_54 rfl (lv_at hl 1 rfl) ?_
    refine va_get (D := g.1) (ci := 2) (v := .ref b6) (C := RX2) (T := TX2) (N := 13) hx hb hts hinX2 hown hK hP 0 rfl rfl 6 (by decide) (hts (.fieldLink RX2 28 "UsewiseModel" "right" "[I") (by decide +kernel)) (fun _ h9 => h9) rfl dX2_laidAgain_55 ?_
    refine lv_iload_n hx hb dX2_laidAgain_58 rfl (lv_at hl 2 rfl) ?_
    refine lv_iconst (v := nI 0) hx hb dX2_laidAgain_59 (by decide) ?_
    refine z_iast hx hb hK hP hD hS 7 0 rfl rfl (by omega) (by decide) dX2_laidAgain_60 (fun H locs hP hD hS => ?_)
    have hP : va_P g.1 vwCl [(mo, .inr (2, [.ref b0, .ref b1, .ref b2, .ref b3, .ref b4, .ref b5, .ref b6, .ref b7, .ref b8, .ref b9, .ref b10, .int (nI cnt), .int th])), (b0, .inl (g.2.1, 720, .inl fY)), (b1, .inl (g.2.1, 6, .inl fM)), (b2, .inl (g.2.1, 6, .inl fA)), (b3, .inl (g.2.1, 6, .inl fR)), (b4, .inl (g.2.1, 6, .inl fL)), (b5, .inl (g.2.1, 6, .inl (upd fD k (nI (zWr rt py T (T - P)))))), (b6, .inl (g.2.1, 6, .inl (upd (upd fH k ((nI R0) + ((nI (zWr rt py T (T - P))) - (nI D0)))) k (nI 0)))), (b7, .inl (g.2.1, 6, .inl fI)), (b8, .inl (g.2.1, 6, .inl fW)), (b9, .inl (g.2.1, 6, .inl fP)), (b10, .inl (g.2.1, 6, .inl (upd fG k (G - ((nI R0) + ((nI (zWr rt py T (T - P))) - (nI D0)))))))] H := hP
    have hD : va_D A [(mo, .inr (2, [.ref b0, .ref b1, .ref b2, .ref b3, .ref b4, .ref b5, .ref b6, .ref b7, .ref b8, .ref b9, .ref b10, .int (nI cnt), .int th])), (b0, .inl (g.2.1, 720, .inl fY)), (b1, .inl (g.2.1, 6, .inl fM)), (b2, .inl (g.2.1, 6, .inl fA)), (b3, .inl (g.2.1, 6, .inl fR)), (b4, .inl (g.2.1, 6, .inl fL)), (b5, .inl (g.2.1, 6, .inl (upd fD k (nI (zWr rt py T (T - P)))))), (b6, .inl (g.2.1, 6, .inl (upd (upd fH k ((nI R0) + ((nI (zWr rt py T (T - P))) - (nI D0)))) k (nI 0)))), (b7, .inl (g.2.1, 6, .inl fI)), (b8, .inl (g.2.1, 6, .inl fW)), (b9, .inl (g.2.1, 6, .inl fP)), (b10, .inl (g.2.1, 6, .inl (upd fG k (G - ((nI R0) + ((nI (zWr rt py T (T - P))) - (nI D0)))))))] := hD
    refine lv_iload_n hx hb dX2_laidAgain_61 rfl (lv_at hl 0 rfl) ?_
    exact z_iret hx hb hr hP hK hD hS dX2_laidAgain_62 hlocks (⟨rfl, 0, _, _, _, _, rfl, z_upd_s _ _ _, z_upd_s _ _ _, z_upd_s _ _ _, fun i hi => ⟨z_upd_n _ _ hi, (z_upd_n _ _ hi).trans (z_upd_n _ _ hi), z_upd_n _ _ hi⟩, Or.inl ⟨hc2, rfl, rfl⟩⟩)

set_option maxHeartbeats 4000000 in
set_option maxRecDepth 100000 in
theorem m_givenUp (l : Launch) (g : zG) (mo b0 b1 b2 b3 b4 b5 b6 b7 b8 b9 b10 cnt : Nat) (th : Int32) (fY fM fA fR fL fD fH fI fW fP fG : Nat → Int32) (k rt T P R0 D0 R1 : Nat) (py : Nat → Nat) (G : Int32) (hk : k < 6) (hmM : fM k = nI T) (hmA : fA k = nI P) (hmR : fR k = nI rt) (hmD : fD k = nI D0) (hmH : fH k = nI R0) (hmG : fG k = G) (hT : T ≤ 120) (hPT : P ≤ T) (hrt : rt ≤ 20000) (hp : ∀ j, P ≤ j → j < T → py j ≤ 1000000) (hmY : ∀ j, P ≤ j → j < T → fY (120 * k + j) = nI (py j)) (hD0 : D0 ≤ 120000000) (hR2 : R0 ≤ 240000000) : zMi l yX2_givenUp wsX2_givenUp ({ frames := 2, cells := 0, slots := 0, locals := 56 } : Room) [.ref mo, .int (nI k), .int (nI R1)] g [(mo, .inr (2, [.ref b0, .ref b1, .ref b2, .ref b3, .ref b4, .ref b5, .ref b6, .ref b7, .ref b8, .ref b9, .ref b10, .int (nI cnt), .int th])), (b0, .inl (g.2.1, 720, .inl fY)), (b1, .inl (g.2.1, 6, .inl fM)), (b2, .inl (g.2.1, 6, .inl fA)), (b3, .inl (g.2.1, 6, .inl fR)), (b4, .inl (g.2.1, 6, .inl fL)), (b5, .inl (g.2.1, 6, .inl fD)), (b6, .inl (g.2.1, 6, .inl fH)), (b7, .inl (g.2.1, 6, .inl fI)), (b8, .inl (g.2.1, 6, .inl fW)), (b9, .inl (g.2.1, 6, .inl fP)), (b10, .inl (g.2.1, 6, .inl fG))] (fun q w => q = nI D0 - nI (zWr rt py T (T - P)) - (nI R0 - nI R1) ∧ ∃ (gD gH gG : Nat → Int32), w = [(mo, .inr (2, [.ref b0, .ref b1, .ref b2, .ref b3, .ref b4, .ref b5, .ref b6, .ref b7, .ref b8, .ref b9, .ref b10, .int (nI cnt), .int th])), (b0, .inl (g.2.1, 720, .inl fY)), (b1, .inl (g.2.1, 6, .inl fM)), (b2, .inl (g.2.1, 6, .inl fA)), (b3, .inl (g.2.1, 6, .inl fR)), (b4, .inl (g.2.1, 6, .inl fL)), (b5, .inl (g.2.1, 6, .inl gD)), (b6, .inl (g.2.1, 6, .inl gH)), (b7, .inl (g.2.1, 6, .inl fI)), (b8, .inl (g.2.1, 6, .inl fW)), (b9, .inl (g.2.1, 6, .inl fP)), (b10, .inl (g.2.1, 6, .inl gG))] ∧ gD k = nI (zWr rt py T (T - P)) ∧ gH k = nI R1 ∧ gG k = G + q ∧ ∀ i, i ≠ k → gD i = fD i ∧ gH i = fH i ∧ gG i = fG i) 0 0 := by
  intro sz A hAe
  refine Met.ofW (cc := cX2_givenUp) (maxL := 5) (ret := some .int) (by decide) rfl ?_
  intro p e s m args below meth c s₁ B hml hv
  obtain ⟨rfl, hsz, hP, hK, hD0⟩ := hv
  have hx := B.exec
  have hb := B.bytes
  have hr := B.returns
  have hts := atoms_spec (ws := wsX2_givenUp) B.pre
  have hown : s.vm.findClass RX2 = some m.cls := findClass_of_methodNamed B.named
  have hlocks := B.notSynchronized
  obtain ⟨hD, hA, hS⟩ := z_in hsz hAe hD0
  have hl := lv_entry ([.ref mo, .int (nI k), .int (nI R1)]) (n := 5) (Nat.le_of_ble_eq_true rfl)
  rw [lg_entry_eq]
  generalize (lg_sl ([.ref mo, .int (nI k), .int (nI R1)]) ++ List.replicate (5 - (lg_sl ([.ref mo, .int (nI k), .int (nI R1)])).length) Slot.unset).toArray = ls at hl ⊢
  have hl : lv_has ls 5 [(0, .ref mo), (1, .int (nI k)), (2, .int (nI R1))] := hl
  have hinX2 : ∀ w ∈ wsX20, w ∈ wsX2_givenUp := by decide +kernel
  have hD1 := z_wb (r := rt) (j := P) hT hp (Nat.le_refl P)
  refine lv_aload_n hx hb dX2_givenUp_0 rfl (lv_at hl 0 rfl) ?_
  refine va_get (D := g.1) (ci := 2) (v := .ref b5) (C := RX2) (T := TX2) (N := 13) hx hb hts hinX2 hown hK hP 0 rfl rfl 5 (by decide) (hts (.fieldLink RX2 25 "UsewiseModel" "debt" "[I") (by decide +kernel)) (fun _ h9 => h9) rfl dX2_givenUp_1 ?_
  refine lv_iload_n hx hb dX2_givenUp_4 rfl (lv_at hl 1 rfl) ?_
  refine z_iald hx hb hK hP 6 0 rfl rfl (by omega) (by decide) dX2_givenUp_5 ?_
  refine zi (y := nI D0) (hmD) ?_
  refine lv_aload_n hx hb dX2_givenUp_6 rfl (lv_at hl 0 rfl) ?_
  refine lv_iload_n hx hb dX2_givenUp_7 rfl (lv_at hl 1 rfl) ?_
  refine z_ai (wa := []) (wc := [(mo, .inr (2, [.ref b0, .ref b1, .ref b2, .ref b3, .ref b4, .ref b5, .ref b6, .ref b7, .ref b8, .ref b9, .ref b10, .int (nI cnt), .int th])), (b0, .inl (g.2.1, 720, .inl fY)), (b1, .inl (g.2.1, 6, .inl fM)), (b2, .inl (g.2.1, 6, .inl fA)), (b3, .inl (g.2.1, 6, .inl fR)), (b4, .inl (g.2.1, 6, .inl fL)), (b5, .inl (g.2.1, 6, .inl fD)), (b6, .inl (g.2.1, 6, .inl fH)), (b7, .inl (g.2.1, 6, .inl fI)), (b8, .inl (g.2.1, 6, .inl fW)), (b9, .inl (g.2.1, 6, .inl fP)), (b10, .inl (g.2.1, 6, .inl fG))]) (wb := []) (va_runV (As := [.int (nI k)]) (rest := [.int (nI D0)]) ⟨hx, hb, hml, hown, hts⟩ (m_worthNow l g mo b0 b1 b2 b3 b4 b5 b6 b7 b8 b9 b10 cnt th fY fM fA fR fL fD fH fI fW fP fG k rt T P py hk hmM hmA hmR hT hPT hrt hp hmY s.heap.size _ rfl) (cwV 1 hts gX2_givenUp_X2_worthNow rfl rfl rfl (by decide +kernel) ⟨Nat.le_of_ble_eq_true rfl, Nat.le_of_ble_eq_true rfl⟩) (zpreV (wa := []) (wc := [(mo, .inr (2, [.ref b0, .ref b1, .ref b2, .ref b3, .ref b4, .ref b5, .ref b6, .ref b7, .ref b8, .ref b9, .ref b10, .int (nI cnt), .int th])), (b0, .inl (g.2.1, 720, .inl fY)), (b1, .inl (g.2.1, 6, .inl fM)), (b2, .inl (g.2.1, 6, .inl fA)), (b3, .inl (g.2.1, 6, .inl fR)), (b4, .inl (g.2.1, 6, .inl fL)), (b5, .inl (g.2.1, 6, .inl fD)), (b6, .inl (g.2.1, 6, .inl fH)), (b7, .inl (g.2.1, 6, .inl fI)), (b8, .inl (g.2.1, 6, .inl fW)), (b9, .inl (g.2.1, 6, .inl fP)), (b10, .inl (g.2.1, 6, .inl fG))]) (wb := []) (q0 := 0) (ci := 2) (T := TX2) (N := 13) hK hP hD rfl rfl) rfl rfl hl.1 rfl (lv_room (Nat.le_of_ble_eq_true rfl)) dX2_givenUp_8 ⟨Nat.le_of_ble_eq_true rfl, Nat.le_of_ble_eq_true rfl⟩) hP hD hS hA (fun r_1 w1 H locs hq hP hD hS => ?_)
  obtain ⟨rfl, rfl⟩ := hq
  have hP : va_P g.1 vwCl [(mo, .inr (2, [.ref b0, .ref b1, .ref b2, .ref b3, .ref b4, .ref b5, .ref b6, .ref b7, .ref b8, .ref b9, .ref b10, .int (nI cnt), .int th])), (b0, .inl (g.2.1, 720, .inl fY)), (b1, .inl (g.2.1, 6, .inl fM)), (b2, .inl (g.2.1, 6, .inl fA)), (b3, .inl (g.2.1, 6, .inl fR)), (b4, .inl (g.2.1, 6, .inl fL)), (b5, .inl (g.2.1, 6, .inl fD)), (b6, .inl (g.2.1, 6, .inl fH)), (b7, .inl (g.2.1, 6, .inl fI)), (b8, .inl (g.2.1, 6, .inl fW)), (b9, .inl (g.2.1, 6, .inl fP)), (b10, .inl (g.2.1, 6, .inl fG))] H := hP
  have hD : va_D A [(mo, .inr (2, [.ref b0, .ref b1, .ref b2, .ref b3, .ref b4, .ref b5, .ref b6, .ref b7, .ref b8, .ref b9, .ref b10, .int (nI cnt), .int th])), (b0, .inl (g.2.1, 720, .inl fY)), (b1, .inl (g.2.1, 6, .inl fM)), (b2, .inl (g.2.1, 6, .inl fA)), (b3, .inl (g.2.1, 6, .inl fR)), (b4, .inl (g.2.1, 6, .inl fL)), (b5, .inl (g.2.1, 6, .inl fD)), (b6, .inl (g.2.1, 6, .inl fH)), (b7, .inl (g.2.1, 6, .inl fI)), (b8, .inl (g.2.1, 6, .inl fW)), (b9, .inl (g.2.1, 6, .inl fP)), (b10, .inl (g.2.1, 6, .inl fG))] := hD
  refine lv_isub hx hb dX2_givenUp_11 ?_
  refine lv_istore_n (lv' := [(3, .int ((nI D0) - (nI (zWr rt py T (T - P))))), (0, .ref mo), (1, .int (nI k)), (2, .int (nI R1))]) hx hb dX2_givenUp_12 rfl hl (by decide) rfl (fun ls hl => ?_)
  refine lv_iload_n hx hb dX2_givenUp_13 rfl (lv_at hl 0 rfl) ?_
  refine lv_aload_n hx hb dX2_givenUp_14 rfl (lv_at hl 1 rfl) ?_
  refine va_get (D := g.1) (ci := 2) (v := .ref b6) (C := RX2) (T := TX2) (N := 13) hx hb hts hinX2 hown hK hP 0 rfl rfl 6 (by decide) (hts (.fieldLink RX2 28 "UsewiseModel" "right" "[I") (by decide +kernel)) (fun _ h9 => h9) rfl dX2_givenUp_15 ?_
  refine lv_iload_n hx hb dX2_givenUp_18 rfl (lv_at hl 2 rfl) ?_
  refine z_iald hx hb hK hP 7 0 rfl rfl (by omega) (by decide) dX2_givenUp_19 ?_
  refine zi (y := nI R0) (hmH) ?_
  refine lv_iload_n hx hb dX2_givenUp_20 rfl (lv_at hl 3 rfl) ?_
  refine lv_isub hx hb dX2_givenUp_21 ?_
  refine lv_isub hx hb dX2_givenUp_22 ?_
  refine lv_istore (lv' := [(4, .int (((nI D0) - (nI (zWr rt py T (T - P)))) - ((nI R0) - (nI R1)))), (3, .int ((nI D0) - (nI (zWr rt py T (T - P))))), (0, .ref mo), (1, .int (nI k)), (2, .int (nI R1))]) hx hb dX2_givenUp_23 hl (by decide) rfl (fun ls hl => ?_)
  refine lv_aload_n hx hb dX2_givenUp_25 rfl (lv_at hl 2 rfl) ?_
  refine va_get (D := g.1) (ci := 2) (v := .ref b5) (C := RX2) (T := TX2) (N := 13) hx hb hts hinX2 hown hK hP 0 rfl rfl 5 (by decide) (hts (.fieldLink RX2 25 "UsewiseModel" "debt" "[I") (by decide +kernel)) (fun _ h9 => h9) rfl dX2_givenUp_26 ?_
  refine lv_iload_n hx hb dX2_givenUp_29 rfl (lv_at hl 3 rfl) ?_
  refine lv_dup2_11 hx hb dX2_givenUp_30 rfl rfl ?_
  refine z_iald hx hb hK hP 6 0 rfl rfl (by omega) (by decide) dX2_givenUp_31 ?_
  refine zi (y := nI D0) (hmD) ?_
  refine lv_iload_n hx hb dX2_givenUp_32 rfl (lv_at hl 1 rfl) ?_
  refine lv_isub hx hb dX2_givenUp_33 ?_
  refine z_iast hx hb hK hP hD hS 6 0 rfl rfl (by omega) (by decide) dX2_givenUp_34 (fun H locs hP hD hS => ?_)
  have hP : va_P g.1 vwCl [(mo, .inr (2, [.ref b0, .ref b1, .ref b2, .ref b3, .ref b4, .ref b5, .ref b6, .ref b7, .ref b8, .ref b9, .ref b10, .int (nI cnt), .int th])), (b0, .inl (g.2.1, 720, .inl fY)), (b1, .inl (g.2.1, 6, .inl fM)), (b2, .inl (g.2.1, 6, .inl fA)), (b3, .inl (g.2.1, 6, .inl fR)), (b4, .inl (g.2.1, 6, .inl fL)), (b5, .inl (g.2.1, 6, .inl (upd fD k ((nI D0) - ((nI D0) - (nI (zWr rt py T (T - P)))))))), (b6, .inl (g.2.1, 6, .inl fH)), (b7, .inl (g.2.1, 6, .inl fI)), (b8, .inl (g.2.1, 6, .inl fW)), (b9, .inl (g.2.1, 6, .inl fP)), (b10, .inl (g.2.1, 6, .inl fG))] H := hP
  have hD : va_D A [(mo, .inr (2, [.ref b0, .ref b1, .ref b2, .ref b3, .ref b4, .ref b5, .ref b6, .ref b7, .ref b8, .ref b9, .ref b10, .int (nI cnt), .int th])), (b0, .inl (g.2.1, 720, .inl fY)), (b1, .inl (g.2.1, 6, .inl fM)), (b2, .inl (g.2.1, 6, .inl fA)), (b3, .inl (g.2.1, 6, .inl fR)), (b4, .inl (g.2.1, 6, .inl fL)), (b5, .inl (g.2.1, 6, .inl (upd fD k ((nI D0) - ((nI D0) - (nI (zWr rt py T (T - P)))))))), (b6, .inl (g.2.1, 6, .inl fH)), (b7, .inl (g.2.1, 6, .inl fI)), (b8, .inl (g.2.1, 6, .inl fW)), (b9, .inl (g.2.1, 6, .inl fP)), (b10, .inl (g.2.1, 6, .inl fG))] := hD
  refine lv_aload_n hx hb dX2_givenUp_35 rfl (lv_at hl 2 rfl) ?_
  refine va_get (D := g.1) (ci := 2) (v := .ref b6) (C := RX2) (T := TX2) (N := 13) hx hb hts hinX2 hown hK hP 0 rfl rfl 6 (by decide) (hts (.fieldLink RX2 28 "UsewiseModel" "right" "[I") (by decide +kernel)) (fun _ h9 => h9) rfl dX2_givenUp_36 ?_
  refine lv_iload_n hx hb dX2_givenUp_39 rfl (lv_at hl 3 rfl) ?_
  refine lv_iload_n hx hb dX2_givenUp_40 rfl (lv_at hl 4 rfl) ?_
  refine z_iast hx hb hK hP hD hS 7 0 rfl rfl (by omega) (by decide) dX2_givenUp_41 (fun H locs hP hD hS => ?_)
  have hP : va_P g.1 vwCl [(mo, .inr (2, [.ref b0, .ref b1, .ref b2, .ref b3, .ref b4, .ref b5, .ref b6, .ref b7, .ref b8, .ref b9, .ref b10, .int (nI cnt), .int th])), (b0, .inl (g.2.1, 720, .inl fY)), (b1, .inl (g.2.1, 6, .inl fM)), (b2, .inl (g.2.1, 6, .inl fA)), (b3, .inl (g.2.1, 6, .inl fR)), (b4, .inl (g.2.1, 6, .inl fL)), (b5, .inl (g.2.1, 6, .inl (upd fD k ((nI D0) - ((nI D0) - (nI (zWr rt py T (T - P)))))))), (b6, .inl (g.2.1, 6, .inl (upd fH k (nI R1)))), (b7, .inl (g.2.1, 6, .inl fI)), (b8, .inl (g.2.1, 6, .inl fW)), (b9, .inl (g.2.1, 6, .inl fP)), (b10, .inl (g.2.1, 6, .inl fG))] H := hP
  have hD : va_D A [(mo, .inr (2, [.ref b0, .ref b1, .ref b2, .ref b3, .ref b4, .ref b5, .ref b6, .ref b7, .ref b8, .ref b9, .ref b10, .int (nI cnt), .int th])), (b0, .inl (g.2.1, 720, .inl fY)), (b1, .inl (g.2.1, 6, .inl fM)), (b2, .inl (g.2.1, 6, .inl fA)), (b3, .inl (g.2.1, 6, .inl fR)), (b4, .inl (g.2.1, 6, .inl fL)), (b5, .inl (g.2.1, 6, .inl (upd fD k ((nI D0) - ((nI D0) - (nI (zWr rt py T (T - P)))))))), (b6, .inl (g.2.1, 6, .inl (upd fH k (nI R1)))), (b7, .inl (g.2.1, 6, .inl fI)), (b8, .inl (g.2.1, 6, .inl fW)), (b9, .inl (g.2.1, 6, .inl fP)), (b10, .inl (g.2.1, 6, .inl fG))] := hD
  refine lv_aload_n hx hb dX2_givenUp_42 rfl (lv_at hl 2 rfl) ?_
  refine va_get (D := g.1) (ci := 2) (v := .ref b10) (C := RX2) (T := TX2) (N := 13) hx hb hts hinX2 hown hK hP 0 rfl rfl 10 (by decide) (hts (.fieldLink RX2 40 "UsewiseModel" "gains" "[I") (by decide +kernel)) (fun _ h9 => h9) rfl dX2_givenUp_43 ?_
  refine lv_iload_n hx hb dX2_givenUp_46 rfl (lv_at hl 3 rfl) ?_
  refine lv_dup2_11 hx hb dX2_givenUp_47 rfl rfl ?_
  refine z_iald hx hb hK hP 11 0 rfl rfl (by omega) (by decide) dX2_givenUp_48 ?_
  refine zi (y := G) (hmG) ?_
  refine lv_iload hx hb dX2_givenUp_49 (lv_at hl 0 rfl) ?_
  refine lv_iadd hx hb dX2_givenUp_51 ?_
  refine z_iast hx hb hK hP hD hS 11 0 rfl rfl (by omega) (by decide) dX2_givenUp_52 (fun H locs hP hD hS => ?_)
  have hP : va_P g.1 vwCl [(mo, .inr (2, [.ref b0, .ref b1, .ref b2, .ref b3, .ref b4, .ref b5, .ref b6, .ref b7, .ref b8, .ref b9, .ref b10, .int (nI cnt), .int th])), (b0, .inl (g.2.1, 720, .inl fY)), (b1, .inl (g.2.1, 6, .inl fM)), (b2, .inl (g.2.1, 6, .inl fA)), (b3, .inl (g.2.1, 6, .inl fR)), (b4, .inl (g.2.1, 6, .inl fL)), (b5, .inl (g.2.1, 6, .inl (upd fD k ((nI D0) - ((nI D0) - (nI (zWr rt py T (T - P)))))))), (b6, .inl (g.2.1, 6, .inl (upd fH k (nI R1)))), (b7, .inl (g.2.1, 6, .inl fI)), (b8, .inl (g.2.1, 6, .inl fW)), (b9, .inl (g.2.1, 6, .inl fP)), (b10, .inl (g.2.1, 6, .inl (upd fG k (G + (((nI D0) - (nI (zWr rt py T (T - P)))) - ((nI R0) - (nI R1)))))))] H := hP
  have hD : va_D A [(mo, .inr (2, [.ref b0, .ref b1, .ref b2, .ref b3, .ref b4, .ref b5, .ref b6, .ref b7, .ref b8, .ref b9, .ref b10, .int (nI cnt), .int th])), (b0, .inl (g.2.1, 720, .inl fY)), (b1, .inl (g.2.1, 6, .inl fM)), (b2, .inl (g.2.1, 6, .inl fA)), (b3, .inl (g.2.1, 6, .inl fR)), (b4, .inl (g.2.1, 6, .inl fL)), (b5, .inl (g.2.1, 6, .inl (upd fD k ((nI D0) - ((nI D0) - (nI (zWr rt py T (T - P)))))))), (b6, .inl (g.2.1, 6, .inl (upd fH k (nI R1)))), (b7, .inl (g.2.1, 6, .inl fI)), (b8, .inl (g.2.1, 6, .inl fW)), (b9, .inl (g.2.1, 6, .inl fP)), (b10, .inl (g.2.1, 6, .inl (upd fG k (G + (((nI D0) - (nI (zWr rt py T (T - P)))) - ((nI R0) - (nI R1)))))))] := hD
  refine lv_iload hx hb dX2_givenUp_53 (lv_at hl 0 rfl) ?_
  exact z_iret hx hb hr hP hK hD hS dX2_givenUp_55 hlocks (⟨rfl, _, _, _, rfl, (z_upd_s _ _ _).trans (z_sub_sub _ _), z_upd_s _ _ _, z_upd_s _ _ _, fun i hi => ⟨z_upd_n _ _ hi, z_upd_n _ _ hi, z_upd_n _ _ hi⟩⟩)
