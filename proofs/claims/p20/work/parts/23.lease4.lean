/-! the class of a lease: its changes -/
theorem z_w {g : zG} {a : Nat × Nat × Nat} {rt lf : Nat} {z1 z2 : zS} {q : zRaw} (e : z1 = z2) : zLW g a rt lf z2 q = zLW g a rt lf z1 q := by rw [e]
theorem zC_of {rt : Nat} {z1 z2 : zS} {q : zRaw} (e : z1 = z2) (h : zCR rt z2 q) : zCR rt z1 q := by rw [e]; exact h
theorem zFol_lt {r T' T P R : Nat} {p' p : Nat → Nat} {I Pd W G : Int32} (h : R + zWr r p' T' (T' - P) < zWr r p T (T - P)) : zFol r T' p' (T, P, p, R, I, Pd, W, G) = (T', P, p', 0, I, Pd, W, G - (nI R + (nI (zWr r p' T' (T' - P)) - nI (zWr r p T (T - P))))) := if_pos h
theorem zFol_ge {r T' T P R : Nat} {p' p : Nat → Nat} {I Pd W G : Int32} (h : zWr r p T (T - P) ≤ R + zWr r p' T' (T' - P)) : zFol r T' p' (T, P, p, R, I, Pd, W, G) = (T', P, p', R + zWr r p' T' (T' - P) - zWr r p T (T - P), I, Pd, W, G) := if_neg (Nat.not_lt.mpr h)
theorem zMW_pos (f T P : Nat) : 0 < zMW f T P := by unfold zMW; omega
theorem zMW_le {f T P : Nat} (h : T ≤ 120) : zMW f T P ≤ 120 := by unfold zMW; omega
theorem z_min {a b : Nat} (ha : a < 2 ^ 31) (hb : b < 2 ^ 31) : (if nI b < nI a then nI b else nI a) = nI (min a b) := by
  by_cases h : b < a
  · rw [if_pos ((nI_ltI hb ha).mpr h), Nat.min_eq_right (Nat.le_of_lt h)]
  · rw [if_neg (mt (nI_ltI hb ha).mp h), Nat.min_eq_left (Nat.le_of_not_lt h)]
theorem z_max {a b : Nat} (ha : a < 2 ^ 31) (hb : b < 2 ^ 31) : (if nI a < nI b then nI b else nI a) = nI (max a b) := by
  by_cases h : a < b
  · rw [if_pos ((nI_ltI ha hb).mpr h), Nat.max_eq_right (Nat.le_of_lt h)]
  · rw [if_neg (mt (nI_ltI ha hb).mp h), Nat.max_eq_left (Nat.le_of_not_lt h)]
set_option maxHeartbeats 4000000 in
set_option maxRecDepth 100000 in
theorem c_passOneMonth (l : Launch) (g : zG) (h pa da rt lf T P R0 : Nat) (py : Nat → Nat) (I Pd Wn G : Int32) (xI xP xW xG : Int64) (u v : Nat → Int32) (hZ : zInv rt lf (T, P, py, R0, I, Pd, Wn, G)) (hC : zCR rt (T, P, py, R0, I, Pd, Wn, G) (xI, xP, xW, xG, u, v)) (hPl : P < T) : zMv l yX0_passOneMonth wsX0_passOneMonth ({ frames := 2, cells := 0, slots := 0, locals := 41 } : Room) [.ref h] g [(h, .inr (0, [.int (nI rt), .int (nI lf), .ref pa, .ref da, .int (nI T), .int (nI P), .long (lN R0), .long xI, .long xP, .long xW, .long xG])), (pa, .inl (g.2.1, 120, .inl u)), (da, .inl (g.2.1, 121, .inl v))] (fun w => ∃ q', w = zLW g (h, pa, da) rt lf (zMonth rt lf (T, P, py, R0, I, Pd, Wn, G)) q' ∧ zCR rt (zMonth rt lf (T, P, py, R0, I, Pd, Wn, G)) q') 0 0 := by
  intro sz A hAe
  refine Met.ofW (cc := cX0_passOneMonth) (maxL := 5) (ret := none) (by decide) rfl ?_
  intro p e s m args below meth c s₁ B hml hv
  obtain ⟨rfl, hsz, hP, hK, hD0⟩ := hv
  have hx := B.exec
  have hb := B.bytes
  have hr := B.returns
  have hts := atoms_spec (ws := wsX0_passOneMonth) B.pre
  have hown : s.vm.findClass RX0 = some m.cls := findClass_of_methodNamed B.named
  have hlocks := B.notSynchronized
  obtain ⟨hD, hA, hS⟩ := z_in hsz hAe hD0
  have hl := lv_entry ([.ref h]) (n := 5) (Nat.le_of_ble_eq_true rfl)
  rw [lg_entry_eq]
  generalize (lg_sl ([.ref h]) ++ List.replicate (5 - (lg_sl ([.ref h])).length) Slot.unset).toArray = ls at hl ⊢
  have hl : lv_has ls 5 [(0, .ref h)] := hl
  have hinX0 : ∀ w ∈ wsX00, w ∈ wsX0_passOneMonth := by decide +kernel
  obtain ⟨hT, hPT, hrt, hlf, hp, hRb⟩ := id hZ
  obtain ⟨hI, hPd, hWn, hG, hu, hv⟩ := id hC
  have hD0 := z_wb (r := rt) (j := P) hT hp (Nat.le_refl P)
  have hR2 := zInv_R hZ
  have hm1 := zMW_pos lf T P
  have hm2 := zMW_le (f := lf) (P := P) hT
  refine lv_aload_n hx hb dX0_passOneMonth_0 rfl (lv_at hl 0 rfl) ?_
  refine va_get (D := g.1) (ci := 0) (v := .ref pa) (C := RX0) (T := TX0) (N := 11) hx hb hts hinX0 hown hK hP 0 rfl rfl 2 (by decide) (hts (.fieldLink RX0 30 "Usewise$Lease" "payments" "[I") (by decide +kernel)) (fun _ h9 => h9) rfl dX0_passOneMonth_1 ?_
  refine lv_aload_n hx hb dX0_passOneMonth_4 rfl (lv_at hl 0 rfl) ?_
  refine va_get (D := g.1) (ci := 0) (v := .int (nI P)) (C := RX0) (T := TX0) (N := 11) hx hb hts hinX0 hown hK hP 0 rfl rfl 5 (by decide) (hts (.fieldLink RX0 52 "Usewise$Lease" "past" "I") (by decide +kernel)) (fun _ h9 => h9) rfl dX0_passOneMonth_5 ?_
  refine z_ai (wa := [(h, .inr (0, [.int (nI rt), .int (nI lf), .ref pa, .ref da, .int (nI T), .int (nI P), .long (lN R0), .long xI, .long xP, .long xW, .long xG]))]) (wc := [(pa, .inl (g.2.1, 120, .inl u))]) (wb := [(da, .inl (g.2.1, 121, .inl v))]) (va_runS (As := [.ref pa, .int (nI P)]) (rest := []) ⟨hx, hb, hml, hown, hts⟩ (c_at l g pa 120 P u (by omega) (by decide) s.heap.size _ rfl) (va_cwS 2 hts gX0_passOneMonth_X0_at rfl rfl rfl (by decide +kernel) ⟨Nat.le_of_ble_eq_true rfl, Nat.le_of_ble_eq_true rfl⟩) (zpreS (wa := [(h, .inr (0, [.int (nI rt), .int (nI lf), .ref pa, .ref da, .int (nI T), .int (nI P), .long (lN R0), .long xI, .long xP, .long xW, .long xG]))]) (wc := [(pa, .inl (g.2.1, 120, .inl u))]) (wb := [(da, .inl (g.2.1, 121, .inl v))]) hK hP hD) rfl rfl hl.1 rfl (lv_room (Nat.le_of_ble_eq_true rfl)) dX0_passOneMonth_8 ⟨Nat.le_of_ble_eq_true rfl, Nat.le_of_ble_eq_true rfl⟩) hP hD hS hA (fun r_1 w1 H locs hq hP hD hS => ?_)
  obtain ⟨rfl, rfl⟩ := hq
  have hP : va_P g.1 vwCl [(h, .inr (0, [.int (nI rt), .int (nI lf), .ref pa, .ref da, .int (nI T), .int (nI P), .long (lN R0), .long xI, .long xP, .long xW, .long xG])), (pa, .inl (g.2.1, 120, .inl u)), (da, .inl (g.2.1, 121, .inl v))] H := hP
  have hD : va_D A [(h, .inr (0, [.int (nI rt), .int (nI lf), .ref pa, .ref da, .int (nI T), .int (nI P), .long (lN R0), .long xI, .long xP, .long xW, .long xG])), (pa, .inl (g.2.1, 120, .inl u)), (da, .inl (g.2.1, 121, .inl v))] := hD
  refine zi (y := nI (py P)) (hu P (by omega) (by omega)) ?_
  refine lv_istore_n (lv' := [(1, .int (nI (py P))), (0, .ref h)]) hx hb dX0_passOneMonth_11 rfl hl (by decide) rfl (fun ls hl => ?_)
  refine lv_aload_n hx hb dX0_passOneMonth_12 rfl (lv_at hl 1 rfl) ?_
  refine lv_dup hx hb dX0_passOneMonth_13 rfl ?_
  refine va_get (D := g.1) (ci := 0) (v := .long xI) (C := RX0) (T := TX0) (N := 11) hx hb hts hinX0 hown hK hP 0 rfl rfl 7 (by decide) (hts (.fieldLink RX0 71 "Usewise$Lease" "interest" "J") (by decide +kernel)) (fun _ h9 => h9) rfl dX0_passOneMonth_14 ?_
  refine lv_aload_n hx hb dX0_passOneMonth_17 rfl (lv_at hl 1 rfl) ?_
  refine va_get (D := g.1) (ci := 0) (v := .ref da) (C := RX0) (T := TX0) (N := 11) hx hb hts hinX0 hown hK hP 0 rfl rfl 3 (by decide) (hts (.fieldLink RX0 34 "Usewise$Lease" "debts" "[I") (by decide +kernel)) (fun _ h9 => h9) rfl dX0_passOneMonth_18 ?_
  refine lv_aload_n hx hb dX0_passOneMonth_21 rfl (lv_at hl 1 rfl) ?_
  refine va_get (D := g.1) (ci := 0) (v := .int (nI P)) (C := RX0) (T := TX0) (N := 11) hx hb hts hinX0 hown hK hP 0 rfl rfl 5 (by decide) (hts (.fieldLink RX0 52 "Usewise$Lease" "past" "I") (by decide +kernel)) (fun _ h9 => h9) rfl dX0_passOneMonth_22 ?_
  refine lv_iconst (v := nI 1) hx hb dX0_passOneMonth_25 (by decide) ?_
  refine z_iadd hx hb dX0_passOneMonth_26 ?_
  refine z_ai (wa := [(h, .inr (0, [.int (nI rt), .int (nI lf), .ref pa, .ref da, .int (nI T), .int (nI P), .long (lN R0), .long xI, .long xP, .long xW, .long xG])), (pa, .inl (g.2.1, 120, .inl u))]) (wc := [(da, .inl (g.2.1, 121, .inl v))]) (wb := []) (va_runS (As := [.ref da, .int (nI (P + 1))]) (rest := [.long xI, .ref h]) ⟨hx, hb, hml, hown, hts⟩ (c_at l g da 121 (P + 1) v (by omega) (by decide) H.size _ rfl) (va_cwS 2 hts gX0_passOneMonth_X0_at rfl rfl rfl (by decide +kernel) ⟨Nat.le_of_ble_eq_true rfl, Nat.le_of_ble_eq_true rfl⟩) (zpreS (wa := [(h, .inr (0, [.int (nI rt), .int (nI lf), .ref pa, .ref da, .int (nI T), .int (nI P), .long (lN R0), .long xI, .long xP, .long xW, .long xG])), (pa, .inl (g.2.1, 120, .inl u))]) (wc := [(da, .inl (g.2.1, 121, .inl v))]) (wb := []) hK hP hD) rfl rfl hl.1 rfl (lv_room (Nat.le_of_ble_eq_true rfl)) dX0_passOneMonth_27 ⟨Nat.le_of_ble_eq_true rfl, Nat.le_of_ble_eq_true rfl⟩) hP hD hS hA (fun r_2 w1 H locs hq hP hD hS => ?_)
  obtain ⟨rfl, rfl⟩ := hq
  have hP : va_P g.1 vwCl [(h, .inr (0, [.int (nI rt), .int (nI lf), .ref pa, .ref da, .int (nI T), .int (nI P), .long (lN R0), .long xI, .long xP, .long xW, .long xG])), (pa, .inl (g.2.1, 120, .inl u)), (da, .inl (g.2.1, 121, .inl v))] H := hP
  have hD : va_D A [(h, .inr (0, [.int (nI rt), .int (nI lf), .ref pa, .ref da, .int (nI T), .int (nI P), .long (lN R0), .long xI, .long xP, .long xW, .long xG])), (pa, .inl (g.2.1, 120, .inl u)), (da, .inl (g.2.1, 121, .inl v))] := hD
  refine zi (y := nI (zWr rt py T (T - (P + 1)))) (hv (P + 1) (by omega) (by omega)) ?_
  refine lv_iload_n hx hb dX0_passOneMonth_30 rfl (lv_at hl 0 rfl) ?_
  refine z_iadd hx hb dX0_passOneMonth_31 ?_
  refine lv_aload_n hx hb dX0_passOneMonth_32 rfl (lv_at hl 1 rfl) ?_
  refine va_get (D := g.1) (ci := 0) (v := .ref da) (C := RX0) (T := TX0) (N := 11) hx hb hts hinX0 hown hK hP 0 rfl rfl 3 (by decide) (hts (.fieldLink RX0 34 "Usewise$Lease" "debts" "[I") (by decide +kernel)) (fun _ h9 => h9) rfl dX0_passOneMonth_33 ?_
  refine lv_aload_n hx hb dX0_passOneMonth_36 rfl (lv_at hl 1 rfl) ?_
  refine va_get (D := g.1) (ci := 0) (v := .int (nI P)) (C := RX0) (T := TX0) (N := 11) hx hb hts hinX0 hown hK hP 0 rfl rfl 5 (by decide) (hts (.fieldLink RX0 52 "Usewise$Lease" "past" "I") (by decide +kernel)) (fun _ h9 => h9) rfl dX0_passOneMonth_37 ?_
  refine z_ai (wa := [(h, .inr (0, [.int (nI rt), .int (nI lf), .ref pa, .ref da, .int (nI T), .int (nI P), .long (lN R0), .long xI, .long xP, .long xW, .long xG])), (pa, .inl (g.2.1, 120, .inl u))]) (wc := [(da, .inl (g.2.1, 121, .inl v))]) (wb := []) (va_runS (As := [.ref da, .int (nI P)]) (rest := [.int (nI (zWr rt py T (T - (P + 1)) + (py P))), .long xI, .ref h]) ⟨hx, hb, hml, hown, hts⟩ (c_at l g da 121 P v (by omega) (by decide) H.size _ rfl) (va_cwS 2 hts gX0_passOneMonth_X0_at rfl rfl rfl (by decide +kernel) ⟨Nat.le_of_ble_eq_true rfl, Nat.le_of_ble_eq_true rfl⟩) (zpreS (wa := [(h, .inr (0, [.int (nI rt), .int (nI lf), .ref pa, .ref da, .int (nI T), .int (nI P), .long (lN R0), .long xI, .long xP, .long xW, .long xG])), (pa, .inl (g.2.1, 120, .inl u))]) (wc := [(da, .inl (g.2.1, 121, .inl v))]) (wb := []) hK hP hD) rfl rfl hl.1 rfl (lv_room (Nat.le_of_ble_eq_true rfl)) dX0_passOneMonth_40 ⟨Nat.le_of_ble_eq_true rfl, Nat.le_of_ble_eq_true rfl⟩) hP hD hS hA (fun r_3 w1 H locs hq hP hD hS => ?_)
  obtain ⟨rfl, rfl⟩ := hq
  have hP : va_P g.1 vwCl [(h, .inr (0, [.int (nI rt), .int (nI lf), .ref pa, .ref da, .int (nI T), .int (nI P), .long (lN R0), .long xI, .long xP, .long xW, .long xG])), (pa, .inl (g.2.1, 120, .inl u)), (da, .inl (g.2.1, 121, .inl v))] H := hP
  have hD : va_D A [(h, .inr (0, [.int (nI rt), .int (nI lf), .ref pa, .ref da, .int (nI T), .int (nI P), .long (lN R0), .long xI, .long xP, .long xW, .long xG])), (pa, .inl (g.2.1, 120, .inl u)), (da, .inl (g.2.1, 121, .inl v))] := hD
  refine zi (y := nI (zWr rt py T (T - P))) (hv P (by omega) (by omega)) ?_
  refine lv_isub hx hb dX0_passOneMonth_43 ?_
  refine lv_i2l hx hb dX0_passOneMonth_44 rfl ?_
  refine lv_ladd hx hb dX0_passOneMonth_45 ?_
  refine va_put (D := g.1) (ci := 0) (v := .long (xI + (((nI (zWr rt py T (T - (P + 1)) + (py P))) - (nI (zWr rt py T (T - P)))).toInt64))) (ty := .long) (C := RX0) (T := TX0) (N := 11) hx hb hts hinX0 tyX0 tyX0_ok nmX0 hown hK hP hD hS 0 rfl rfl 7 (by decide) (hts (.fieldLink RX0 71 "Usewise$Lease" "interest" "J") (by decide +kernel)) (fun _ h9 => h9) rfl (by decide +kernel) rfl rfl (Nat.le_of_ble_eq_true rfl) dX0_passOneMonth_46 (fun H locs hP hD hS => ?_)
  have hP : va_P g.1 vwCl [(h, .inr (0, [.int (nI rt), .int (nI lf), .ref pa, .ref da, .int (nI T), .int (nI P), .long (lN R0), .long (xI + (((nI (zWr rt py T (T - (P + 1)) + (py P))) - (nI (zWr rt py T (T - P)))).toInt64)), .long xP, .long xW, .long xG])), (pa, .inl (g.2.1, 120, .inl u)), (da, .inl (g.2.1, 121, .inl v))] H := hP
  have hD : va_D A [(h, .inr (0, [.int (nI rt), .int (nI lf), .ref pa, .ref da, .int (nI T), .int (nI P), .long (lN R0), .long (xI + (((nI (zWr rt py T (T - (P + 1)) + (py P))) - (nI (zWr rt py T (T - P)))).toInt64)), .long xP, .long xW, .long xG])), (pa, .inl (g.2.1, 120, .inl u)), (da, .inl (g.2.1, 121, .inl v))] := hD
  refine lv_aload_n hx hb dX0_passOneMonth_49 rfl (lv_at hl 1 rfl) ?_
  refine lv_dup hx hb dX0_passOneMonth_50 rfl ?_
  refine va_get (D := g.1) (ci := 0) (v := .long xP) (C := RX0) (T := TX0) (N := 11) hx hb hts hinX0 hown hK hP 0 rfl rfl 8 (by decide) (hts (.fieldLink RX0 74 "Usewise$Lease" "paid" "J") (by decide +kernel)) (fun _ h9 => h9) rfl dX0_passOneMonth_51 ?_
  have hpP := hp P (by omega) (by omega)
  have hm0 : zMW lf T P = max 1 (min (T - P) (lf - P)) := rfl
  refine lv_iload_n hx hb dX0_passOneMonth_54 rfl (lv_at hl 0 rfl) ?_
  refine z_i2l hx hb dX0_passOneMonth_55 (by omega) ?_
  refine lv_ladd hx hb dX0_passOneMonth_56 ?_
  refine va_put (D := g.1) (ci := 0) (v := .long (xP + (lN (py P)))) (ty := .long) (C := RX0) (T := TX0) (N := 11) hx hb hts hinX0 tyX0 tyX0_ok nmX0 hown hK hP hD hS 0 rfl rfl 8 (by decide) (hts (.fieldLink RX0 74 "Usewise$Lease" "paid" "J") (by decide +kernel)) (fun _ h9 => h9) rfl (by decide +kernel) rfl rfl (Nat.le_of_ble_eq_true rfl) dX0_passOneMonth_57 (fun H locs hP hD hS => ?_)
  have hP : va_P g.1 vwCl [(h, .inr (0, [.int (nI rt), .int (nI lf), .ref pa, .ref da, .int (nI T), .int (nI P), .long (lN R0), .long (xI + (((nI (zWr rt py T (T - (P + 1)) + (py P))) - (nI (zWr rt py T (T - P)))).toInt64)), .long (xP + (lN (py P))), .long xW, .long xG])), (pa, .inl (g.2.1, 120, .inl u)), (da, .inl (g.2.1, 121, .inl v))] H := hP
  have hD : va_D A [(h, .inr (0, [.int (nI rt), .int (nI lf), .ref pa, .ref da, .int (nI T), .int (nI P), .long (lN R0), .long (xI + (((nI (zWr rt py T (T - (P + 1)) + (py P))) - (nI (zWr rt py T (T - P)))).toInt64)), .long (xP + (lN (py P))), .long xW, .long xG])), (pa, .inl (g.2.1, 120, .inl u)), (da, .inl (g.2.1, 121, .inl v))] := hD
  refine lv_aload_n hx hb dX0_passOneMonth_60 rfl (lv_at hl 1 rfl) ?_
  refine va_get (D := g.1) (ci := 0) (v := .int (nI T)) (C := RX0) (T := TX0) (N := 11) hx hb hts hinX0 hown hK hP 0 rfl rfl 4 (by decide) (hts (.fieldLink RX0 27 "Usewise$Lease" "term" "I") (by decide +kernel)) (fun _ h9 => h9) rfl dX0_passOneMonth_61 ?_
  refine lv_aload_n hx hb dX0_passOneMonth_64 rfl (lv_at hl 1 rfl) ?_
  refine va_get (D := g.1) (ci := 0) (v := .int (nI lf)) (C := RX0) (T := TX0) (N := 11) hx hb hts hinX0 hown hK hP 0 rfl rfl 1 (by decide) (hts (.fieldLink RX0 15 "Usewise$Lease" "life" "I") (by decide +kernel)) (fun _ h9 => h9) rfl dX0_passOneMonth_65 ?_
  refine va_mmin hx hb (hml.trans hl.1.symm) hown (hts (.methodLink RX0 18 Lib.Math.min.name) (by decide +kernel)) (hts (.static Lib.Math.min.name) (by decide +kernel)) (hts (.initialized "java/lang/Math") (by decide +kernel)) (hts (.code Lib.Math.min.name Lib.Math.min.code 2 (some .int)) (by decide +kernel)) (Nat.le_of_ble_eq_true rfl) (Nat.le_of_ble_eq_true rfl) (Nat.le_of_ble_eq_true rfl) (Nat.le_of_ble_eq_true rfl) dX0_passOneMonth_68 ?_
  refine zi (y := nI (min T lf)) (z_min (by omega) (by omega)) ?_
  refine lv_aload_n hx hb dX0_passOneMonth_71 rfl (lv_at hl 1 rfl) ?_
  refine va_get (D := g.1) (ci := 0) (v := .int (nI P)) (C := RX0) (T := TX0) (N := 11) hx hb hts hinX0 hown hK hP 0 rfl rfl 5 (by decide) (hts (.fieldLink RX0 52 "Usewise$Lease" "past" "I") (by decide +kernel)) (fun _ h9 => h9) rfl dX0_passOneMonth_72 ?_
  refine lv_isub hx hb dX0_passOneMonth_75 ?_
  refine lv_istore_n (lv' := [(2, .int ((nI (min T lf)) - (nI P))), (1, .int (nI (py P))), (0, .ref h)]) hx hb dX0_passOneMonth_76 rfl hl (by decide) rfl (fun ls hl => ?_)
  refine lv_iload_n hx hb dX0_passOneMonth_77 rfl (lv_at hl 0 rfl) ?_
  refine lv_iconst (v := nI 1) hx hb dX0_passOneMonth_78 (by decide) ?_
  refine lv_icmp_le (tgt := 92) hx hb dX0_passOneMonth_79 (by decide) (fun hc => ?_) (fun hc => ?_)
  · rw [Int32.le_iff_toInt_le, pk_sub_toInt (by omega) (by omega), nI_toInt (by decide)] at hc
    refine lv_aload_n hx hb dX0_passOneMonth_92 rfl (lv_at hl 2 rfl) ?_
    refine va_get (D := g.1) (ci := 0) (v := .long (lN R0)) (C := RX0) (T := TX0) (N := 11) hx hb hts hinX0 hown hK hP 0 rfl rfl 6 (by decide) (hts (.fieldLink RX0 48 "Usewise$Lease" "right" "J") (by decide +kernel)) (fun _ h9 => h9) rfl dX0_passOneMonth_93 ?_
    refine zl (y := lN (R0 / zMW lf T P)) (by rw [show zMW lf T P = 1 by omega, Nat.div_one]) ?_
    refine lv_lstore_n (lv' := [(3, .long (lN (R0 / zMW lf T P))), (2, .int ((nI (min T lf)) - (nI P))), (1, .int (nI (py P))), (0, .ref h)]) hx hb dX0_passOneMonth_96 rfl hl (by decide) rfl (fun ls hl => ?_)
    refine lv_aload_n hx hb dX0_passOneMonth_97 rfl (lv_at hl 3 rfl) ?_
    refine lv_dup hx hb dX0_passOneMonth_98 rfl ?_
    refine va_get (D := g.1) (ci := 0) (v := .long xW) (C := RX0) (T := TX0) (N := 11) hx hb hts hinX0 hown hK hP 0 rfl rfl 9 (by decide) (hts (.fieldLink RX0 77 "Usewise$Lease" "written" "J") (by decide +kernel)) (fun _ h9 => h9) rfl dX0_passOneMonth_99 ?_
    refine lv_lload_n hx hb dX0_passOneMonth_102 rfl (lv_at hl 0 rfl) ?_
    refine lv_ladd hx hb dX0_passOneMonth_103 ?_
    refine va_put (D := g.1) (ci := 0) (v := .long (xW + (lN (R0 / zMW lf T P)))) (ty := .long) (C := RX0) (T := TX0) (N := 11) hx hb hts hinX0 tyX0 tyX0_ok nmX0 hown hK hP hD hS 0 rfl rfl 9 (by decide) (hts (.fieldLink RX0 77 "Usewise$Lease" "written" "J") (by decide +kernel)) (fun _ h9 => h9) rfl (by decide +kernel) rfl rfl (Nat.le_of_ble_eq_true rfl) dX0_passOneMonth_104 (fun H locs hP hD hS => ?_)
    have hP : va_P g.1 vwCl [(h, .inr (0, [.int (nI rt), .int (nI lf), .ref pa, .ref da, .int (nI T), .int (nI P), .long (lN R0), .long (xI + (((nI (zWr rt py T (T - (P + 1)) + (py P))) - (nI (zWr rt py T (T - P)))).toInt64)), .long (xP + (lN (py P))), .long (xW + (lN (R0 / zMW lf T P))), .long xG])), (pa, .inl (g.2.1, 120, .inl u)), (da, .inl (g.2.1, 121, .inl v))] H := hP
    have hD : va_D A [(h, .inr (0, [.int (nI rt), .int (nI lf), .ref pa, .ref da, .int (nI T), .int (nI P), .long (lN R0), .long (xI + (((nI (zWr rt py T (T - (P + 1)) + (py P))) - (nI (zWr rt py T (T - P)))).toInt64)), .long (xP + (lN (py P))), .long (xW + (lN (R0 / zMW lf T P))), .long xG])), (pa, .inl (g.2.1, 120, .inl u)), (da, .inl (g.2.1, 121, .inl v))] := hD
    refine lv_aload_n hx hb dX0_passOneMonth_107 rfl (lv_at hl 3 rfl) ?_
    refine lv_dup hx hb dX0_passOneMonth_108 rfl ?_
    refine va_get (D := g.1) (ci := 0) (v := .long (lN R0)) (C := RX0) (T := TX0) (N := 11) hx hb hts hinX0 hown hK hP 0 rfl rfl 6 (by decide) (hts (.fieldLink RX0 48 "Usewise$Lease" "right" "J") (by decide +kernel)) (fun _ h9 => h9) rfl dX0_passOneMonth_109 ?_
    refine lv_lload_n hx hb dX0_passOneMonth_112 rfl (lv_at hl 0 rfl) ?_
    refine z_lsub hx hb dX0_passOneMonth_113 (Nat.div_le_self _ _) ?_
    refine va_put (D := g.1) (ci := 0) (v := .long (lN (R0 - (R0 / zMW lf T P)))) (ty := .long) (C := RX0) (T := TX0) (N := 11) hx hb hts hinX0 tyX0 tyX0_ok nmX0 hown hK hP hD hS 0 rfl rfl 6 (by decide) (hts (.fieldLink RX0 48 "Usewise$Lease" "right" "J") (by decide +kernel)) (fun _ h9 => h9) rfl (by decide +kernel) rfl rfl (Nat.le_of_ble_eq_true rfl) dX0_passOneMonth_114 (fun H locs hP hD hS => ?_)
    have hP : va_P g.1 vwCl [(h, .inr (0, [.int (nI rt), .int (nI lf), .ref pa, .ref da, .int (nI T), .int (nI P), .long (lN (R0 - (R0 / zMW lf T P))), .long (xI + (((nI (zWr rt py T (T - (P + 1)) + (py P))) - (nI (zWr rt py T (T - P)))).toInt64)), .long (xP + (lN (py P))), .long (xW + (lN (R0 / zMW lf T P))), .long xG])), (pa, .inl (g.2.1, 120, .inl u)), (da, .inl (g.2.1, 121, .inl v))] H := hP
    have hD : va_D A [(h, .inr (0, [.int (nI rt), .int (nI lf), .ref pa, .ref da, .int (nI T), .int (nI P), .long (lN (R0 - (R0 / zMW lf T P))), .long (xI + (((nI (zWr rt py T (T - (P + 1)) + (py P))) - (nI (zWr rt py T (T - P)))).toInt64)), .long (xP + (lN (py P))), .long (xW + (lN (R0 / zMW lf T P))), .long xG])), (pa, .inl (g.2.1, 120, .inl u)), (da, .inl (g.2.1, 121, .inl v))] := hD
    refine lv_aload_n hx hb dX0_passOneMonth_117 rfl (lv_at hl 3 rfl) ?_
    refine lv_dup hx hb dX0_passOneMonth_118 rfl ?_
    refine va_get (D := g.1) (ci := 0) (v := .int (nI P)) (C := RX0) (T := TX0) (N := 11) hx hb hts hinX0 hown hK hP 0 rfl rfl 5 (by decide) (hts (.fieldLink RX0 52 "Usewise$Lease" "past" "I") (by decide +kernel)) (fun _ h9 => h9) rfl dX0_passOneMonth_119 ?_
    refine lv_iconst (v := nI 1) hx hb dX0_passOneMonth_122 (by decide) ?_
    refine z_iadd hx hb dX0_passOneMonth_123 ?_
    refine va_put (D := g.1) (ci := 0) (v := .int (nI (P + 1))) (ty := .int) (C := RX0) (T := TX0) (N := 11) hx hb hts hinX0 tyX0 tyX0_ok nmX0 hown hK hP hD hS 0 rfl rfl 5 (by decide) (hts (.fieldLink RX0 52 "Usewise$Lease" "past" "I") (by decide +kernel)) (fun _ h9 => h9) rfl (by decide +kernel) rfl rfl (Nat.le_of_ble_eq_true rfl) dX0_passOneMonth_124 (fun H locs hP hD hS => ?_)
    have hP : va_P g.1 vwCl [(h, .inr (0, [.int (nI rt), .int (nI lf), .ref pa, .ref da, .int (nI T), .int (nI (P + 1)), .long (lN (R0 - (R0 / zMW lf T P))), .long (xI + (((nI (zWr rt py T (T - (P + 1)) + (py P))) - (nI (zWr rt py T (T - P)))).toInt64)), .long (xP + (lN (py P))), .long (xW + (lN (R0 / zMW lf T P))), .long xG])), (pa, .inl (g.2.1, 120, .inl u)), (da, .inl (g.2.1, 121, .inl v))] H := hP
    have hD : va_D A [(h, .inr (0, [.int (nI rt), .int (nI lf), .ref pa, .ref da, .int (nI T), .int (nI (P + 1)), .long (lN (R0 - (R0 / zMW lf T P))), .long (xI + (((nI (zWr rt py T (T - (P + 1)) + (py P))) - (nI (zWr rt py T (T - P)))).toInt64)), .long (xP + (lN (py P))), .long (xW + (lN (R0 / zMW lf T P))), .long xG])), (pa, .inl (g.2.1, 120, .inl u)), (da, .inl (g.2.1, 121, .inl v))] := hD
    exact z_vret hx hb hr hP hK hD hS dX0_passOneMonth_127 hlocks (⟨(_, _, _, _, _, _), rfl, by rw [z64_add, z32_64, hI, ← nI_add], by rw [z64_add, lN_i, hPd], by rw [z64_add, lN_i, hWn], hG, fun j h1 h2 => hu j (by omega) h2, fun j h1 h2 => hv j (by omega) h2⟩)
  · rw [Int32.le_iff_toInt_le, pk_sub_toInt (by omega) (by omega), nI_toInt (by decide)] at hc
    refine lv_aload_n hx hb dX0_passOneMonth_82 rfl (lv_at hl 2 rfl) ?_
    refine va_get (D := g.1) (ci := 0) (v := .long (lN R0)) (C := RX0) (T := TX0) (N := 11) hx hb hts hinX0 hown hK hP 0 rfl rfl 6 (by decide) (hts (.fieldLink RX0 48 "Usewise$Lease" "right" "J") (by decide +kernel)) (fun _ h9 => h9) rfl dX0_passOneMonth_83 ?_
    refine lv_iload_n hx hb dX0_passOneMonth_86 rfl (lv_at hl 0 rfl) ?_
    refine zi (y := nI (zMW lf T P)) ((pk_sub (by omega)).trans (by rw [show min T lf - P = zMW lf T P by omega])) ?_
    refine z_i2l hx hb dX0_passOneMonth_87 (by omega) ?_
    refine z_ldiv hx hb dX0_passOneMonth_88 (by omega) (by omega) (by omega) ?_
    refine lv_goto (tgt := 96) hx hb dX0_passOneMonth_89 (by decide) ?_
    refine lv_lstore_n (lv' := [(3, .long (lN (R0 / (zMW lf T P)))), (2, .int ((nI (min T lf)) - (nI P))), (1, .int (nI (py P))), (0, .ref h)]) hx hb dX0_passOneMonth_96 rfl hl (by decide) rfl (fun ls hl => ?_)
    refine lv_aload_n hx hb dX0_passOneMonth_97 rfl (lv_at hl 3 rfl) ?_
    refine lv_dup hx hb dX0_passOneMonth_98 rfl ?_
    refine va_get (D := g.1) (ci := 0) (v := .long xW) (C := RX0) (T := TX0) (N := 11) hx hb hts hinX0 hown hK hP 0 rfl rfl 9 (by decide) (hts (.fieldLink RX0 77 "Usewise$Lease" "written" "J") (by decide +kernel)) (fun _ h9 => h9) rfl dX0_passOneMonth_99 ?_
    refine lv_lload_n hx hb dX0_passOneMonth_102 rfl (lv_at hl 0 rfl) ?_
    refine lv_ladd hx hb dX0_passOneMonth_103 ?_
    refine va_put (D := g.1) (ci := 0) (v := .long (xW + (lN (R0 / (zMW lf T P))))) (ty := .long) (C := RX0) (T := TX0) (N := 11) hx hb hts hinX0 tyX0 tyX0_ok nmX0 hown hK hP hD hS 0 rfl rfl 9 (by decide) (hts (.fieldLink RX0 77 "Usewise$Lease" "written" "J") (by decide +kernel)) (fun _ h9 => h9) rfl (by decide +kernel) rfl rfl (Nat.le_of_ble_eq_true rfl) dX0_passOneMonth_104 (fun H locs hP hD hS => ?_)
    have hP : va_P g.1 vwCl [(h, .inr (0, [.int (nI rt), .int (nI lf), .ref pa, .ref da, .int (nI T), .int (nI P), .long (lN R0), .long (xI + (((nI (zWr rt py T (T - (P + 1)) + (py P))) - (nI (zWr rt py T (T - P)))).toInt64)), .long (xP + (lN (py P))), .long (xW + (lN (R0 / (zMW lf T P)))), .long xG])), (pa, .inl (g.2.1, 120, .inl u)), (da, .inl (g.2.1, 121, .inl v))] H := hP
    have hD : va_D A [(h, .inr (0, [.int (nI rt), .int (nI lf), .ref pa, .ref da, .int (nI T), .int (nI P), .long (lN R0), .long (xI + (((nI (zWr rt py T (T - (P + 1)) + (py P))) - (nI (zWr rt py T (T - P)))).toInt64)), .long (xP + (lN (py P))), .long (xW + (lN (R0 / (zMW lf T P)))), .long xG])), (pa, .inl (g.2.1, 120, .inl u)), (da, .inl (g.2.1, 121, .inl v))] := hD
    refine lv_aload_n hx hb dX0_passOneMonth_107 rfl (lv_at hl 3 rfl) ?_
    refine lv_dup hx hb dX0_passOneMonth_108 rfl ?_
    refine va_get (D := g.1) (ci := 0) (v := .long (lN R0)) (C := RX0) (T := TX0) (N := 11) hx hb hts hinX0 hown hK hP 0 rfl rfl 6 (by decide) (hts (.fieldLink RX0 48 "Usewise$Lease" "right" "J") (by decide +kernel)) (fun _ h9 => h9) rfl dX0_passOneMonth_109 ?_
    refine lv_lload_n hx hb dX0_passOneMonth_112 rfl (lv_at hl 0 rfl) ?_
    refine z_lsub hx hb dX0_passOneMonth_113 (Nat.div_le_self _ _) ?_
    refine va_put (D := g.1) (ci := 0) (v := .long (lN (R0 - (R0 / (zMW lf T P))))) (ty := .long) (C := RX0) (T := TX0) (N := 11) hx hb hts hinX0 tyX0 tyX0_ok nmX0 hown hK hP hD hS 0 rfl rfl 6 (by decide) (hts (.fieldLink RX0 48 "Usewise$Lease" "right" "J") (by decide +kernel)) (fun _ h9 => h9) rfl (by decide +kernel) rfl rfl (Nat.le_of_ble_eq_true rfl) dX0_passOneMonth_114 (fun H locs hP hD hS => ?_)
    have hP : va_P g.1 vwCl [(h, .inr (0, [.int (nI rt), .int (nI lf), .ref pa, .ref da, .int (nI T), .int (nI P), .long (lN (R0 - (R0 / (zMW lf T P)))), .long (xI + (((nI (zWr rt py T (T - (P + 1)) + (py P))) - (nI (zWr rt py T (T - P)))).toInt64)), .long (xP + (lN (py P))), .long (xW + (lN (R0 / (zMW lf T P)))), .long xG])), (pa, .inl (g.2.1, 120, .inl u)), (da, .inl (g.2.1, 121, .inl v))] H := hP
    have hD : va_D A [(h, .inr (0, [.int (nI rt), .int (nI lf), .ref pa, .ref da, .int (nI T), .int (nI P), .long (lN (R0 - (R0 / (zMW lf T P)))), .long (xI + (((nI (zWr rt py T (T - (P + 1)) + (py P))) - (nI (zWr rt py T (T - P)))).toInt64)), .long (xP + (lN (py P))), .long (xW + (lN (R0 / (zMW lf T P)))), .long xG])), (pa, .inl (g.2.1, 120, .inl u)), (da, .inl (g.2.1, 121, .inl v))] := hD
    refine lv_aload_n hx hb dX0_passOneMonth_117 rfl (lv_at hl 3 rfl) ?_
    refine lv_dup hx hb dX0_passOneMonth_118 rfl ?_
    refine va_get (D := g.1) (ci := 0) (v := .int (nI P)) (C := RX0) (T := TX0) (N := 11) hx hb hts hinX0 hown hK hP 0 rfl rfl 5 (by decide) (hts (.fieldLink RX0 52 "Usewise$Lease" "past" "I") (by decide +kernel)) (fun _ h9 => h9) rfl dX0_passOneMonth_119 ?_
    refine lv_iconst (v := nI 1) hx hb dX0_passOneMonth_122 (by decide) ?_
    refine z_iadd hx hb dX0_passOneMonth_123 ?_
    refine va_put (D := g.1) (ci := 0) (v := .int (nI (P + 1))) (ty := .int) (C := RX0) (T := TX0) (N := 11) hx hb hts hinX0 tyX0 tyX0_ok nmX0 hown hK hP hD hS 0 rfl rfl 5 (by decide) (hts (.fieldLink RX0 52 "Usewise$Lease" "past" "I") (by decide +kernel)) (fun _ h9 => h9) rfl (by decide +kernel) rfl rfl (Nat.le_of_ble_eq_true rfl) dX0_passOneMonth_124 (fun H locs hP hD hS => ?_)
    have hP : va_P g.1 vwCl [(h, .inr (0, [.int (nI rt), .int (nI lf), .ref pa, .ref da, .int (nI T), .int (nI (P + 1)), .long (lN (R0 - (R0 / (zMW lf T P)))), .long (xI + (((nI (zWr rt py T (T - (P + 1)) + (py P))) - (nI (zWr rt py T (T - P)))).toInt64)), .long (xP + (lN (py P))), .long (xW + (lN (R0 / (zMW lf T P)))), .long xG])), (pa, .inl (g.2.1, 120, .inl u)), (da, .inl (g.2.1, 121, .inl v))] H := hP
    have hD : va_D A [(h, .inr (0, [.int (nI rt), .int (nI lf), .ref pa, .ref da, .int (nI T), .int (nI (P + 1)), .long (lN (R0 - (R0 / (zMW lf T P)))), .long (xI + (((nI (zWr rt py T (T - (P + 1)) + (py P))) - (nI (zWr rt py T (T - P)))).toInt64)), .long (xP + (lN (py P))), .long (xW + (lN (R0 / (zMW lf T P)))), .long xG])), (pa, .inl (g.2.1, 120, .inl u)), (da, .inl (g.2.1, 121, .inl v))] := hD
    exact z_vret hx hb hr hP hK hD hS dX0_passOneMonth_127 hlocks (⟨(_, _, _, _, _, _), rfl, by rw [z64_add, z32_64, hI, ← nI_add], by rw [z64_add, lN_i, hPd], by rw [z64_add, lN_i, hWn], hG, fun j h1 h2 => hu j (by omega) h2, fun j h1 h2 => hv j (by omega) h2⟩)

set_option maxHeartbeats 4000000 in
set_option maxRecDepth 100000 in
theorem c_endsWithin (l : Launch) (g : zG) (h pa da rt lf T P R0 : Nat) (py : Nat → Nat) (I Pd Wn G : Int32) (xI xP xW xG : Int64) (u v : Nat → Int32) (k0 : Nat) (hZ : zInv rt lf (T, P, py, R0, I, Pd, Wn, G)) (hC : zCR rt (T, P, py, R0, I, Pd, Wn, G) (xI, xP, xW, xG, u, v)) (hk0 : 1 ≤ k0 ∧ k0 ≤ 24) : zMi l yX0_endsWithin wsX0_endsWithin ({ frames := 3, cells := 0, slots := 0, locals := 70 } : Room) [.ref h, .int (nI k0)] g [(h, .inr (0, [.int (nI rt), .int (nI lf), .ref pa, .ref da, .int (nI T), .int (nI P), .long (lN R0), .long xI, .long xP, .long xW, .long xG])), (pa, .inl (g.2.1, 120, .inl u)), (da, .inl (g.2.1, 121, .inl v))] (fun q w => (∃ q', w = zLW g (h, pa, da) rt lf (zIt rt lf (min k0 (T - P)) (T, P, py, R0, I, Pd, Wn, G)) q' ∧ zCR rt (zIt rt lf (min k0 (T - P)) (T, P, py, R0, I, Pd, Wn, G)) q') ∧ ((0 < T - P ∧ T - P ≤ k0 ∧ q = nI 1) ∨ (¬ (0 < T - P ∧ T - P ≤ k0) ∧ q = nI 0))) 0 0 := by
  intro sz A hAe
  refine Met.ofW (cc := cX0_endsWithin) (maxL := 4) (ret := some .boolean) (by decide) rfl ?_
  intro p e s m args below meth c s₁ B hml hv
  obtain ⟨rfl, hsz, hP, hK, hD0⟩ := hv
  have hx := B.exec
  have hb := B.bytes
  have hr := B.returns
  have hts := atoms_spec (ws := wsX0_endsWithin) B.pre
  have hown : s.vm.findClass RX0 = some m.cls := findClass_of_methodNamed B.named
  have hlocks := B.notSynchronized
  obtain ⟨hD, hA, hS⟩ := z_in hsz hAe hD0
  have hl := lv_entry ([.ref h, .int (nI k0)]) (n := 4) (Nat.le_of_ble_eq_true rfl)
  rw [lg_entry_eq]
  generalize (lg_sl ([.ref h, .int (nI k0)]) ++ List.replicate (4 - (lg_sl ([.ref h, .int (nI k0)])).length) Slot.unset).toArray = ls at hl ⊢
  have hl : lv_has ls 4 [(0, .ref h), (1, .int (nI k0))] := hl
  have hinX0 : ∀ w ∈ wsX00, w ∈ wsX0_endsWithin := by decide +kernel
  obtain ⟨hT, hPT, hrt, hlf, hp, hRb⟩ := id hZ
  obtain ⟨hI, hPd, hWn, hG, hu, hv⟩ := id hC
  have hD0 := z_wb (r := rt) (j := P) hT hp (Nat.le_refl P)
  have hR2 := zInv_R hZ
  refine lv_iload_n hx hb dX0_endsWithin_0 rfl (lv_at hl 1 rfl) ?_
  refine lv_aload_n hx hb dX0_endsWithin_1 rfl (lv_at hl 0 rfl) ?_
  refine z_ai (wa := []) (wc := [(h, .inr (0, [.int (nI rt), .int (nI lf), .ref pa, .ref da, .int (nI T), .int (nI P), .long (lN R0), .long xI, .long xP, .long xW, .long xG])), (pa, .inl (g.2.1, 120, .inl u)), (da, .inl (g.2.1, 121, .inl v))]) (wb := []) (va_runV (As := []) (rest := [.int (nI k0)]) ⟨hx, hb, hml, hown, hts⟩ (c_monthsLeft l g h pa da rt lf T P (lN R0) xI xP xW xG u v hPT s.heap.size _ rfl) (cwV 0 hts gX0_endsWithin_X0_monthsLeft rfl rfl rfl (by decide +kernel) ⟨Nat.le_of_ble_eq_true rfl, Nat.le_of_ble_eq_true rfl⟩) (zpreV (wa := []) (wc := [(h, .inr (0, [.int (nI rt), .int (nI lf), .ref pa, .ref da, .int (nI T), .int (nI P), .long (lN R0), .long xI, .long xP, .long xW, .long xG])), (pa, .inl (g.2.1, 120, .inl u)), (da, .inl (g.2.1, 121, .inl v))]) (wb := []) (q0 := 0) (ci := 0) (T := TX0) (N := 11) hK hP hD rfl rfl) rfl rfl hl.1 rfl (lv_room (Nat.le_of_ble_eq_true rfl)) dX0_endsWithin_2 ⟨Nat.le_of_ble_eq_true rfl, Nat.le_of_ble_eq_true rfl⟩) hP hD hS hA (fun r_1 w1 H locs hq hP hD hS => ?_)
  obtain ⟨rfl, rfl⟩ := hq
  have hP : va_P g.1 vwCl [(h, .inr (0, [.int (nI rt), .int (nI lf), .ref pa, .ref da, .int (nI T), .int (nI P), .long (lN R0), .long xI, .long xP, .long xW, .long xG])), (pa, .inl (g.2.1, 120, .inl u)), (da, .inl (g.2.1, 121, .inl v))] H := hP
  have hD : va_D A [(h, .inr (0, [.int (nI rt), .int (nI lf), .ref pa, .ref da, .int (nI T), .int (nI P), .long (lN R0), .long xI, .long xP, .long xW, .long xG])), (pa, .inl (g.2.1, 120, .inl u)), (da, .inl (g.2.1, 121, .inl v))] := hD
  refine va_mmin hx hb (hml.trans hl.1.symm) hown (hts (.methodLink RX0 18 Lib.Math.min.name) (by decide +kernel)) (hts (.static Lib.Math.min.name) (by decide +kernel)) (hts (.initialized "java/lang/Math") (by decide +kernel)) (hts (.code Lib.Math.min.name Lib.Math.min.code 2 (some .int)) (by decide +kernel)) (Nat.le_of_ble_eq_true rfl) (Nat.le_of_ble_eq_true rfl) (Nat.le_of_ble_eq_true rfl) (Nat.le_of_ble_eq_true rfl) dX0_endsWithin_5 ?_
  refine zi (y := nI (min k0 (T - P))) (z_min (by omega) (by omega)) ?_
  refine lv_istore_n (lv' := [(2, .int (nI (min k0 (T - P)))), (0, .ref h), (1, .int (nI k0))]) hx hb dX0_endsWithin_8 rfl hl (by decide) rfl (fun ls hl => ?_)
  refine lv_iconst (v := nI 0) hx hb dX0_endsWithin_9 (by decide) ?_
  refine lv_istore_n (lv' := [(3, .int (nI 0)), (2, .int (nI (min k0 (T - P)))), (0, .ref h), (1, .int (nI k0))]) hx hb dX0_endsWithin_10 rfl hl (by decide) rfl (fun ls hl => ?_)
  have loop : ∀ (n : Nat) (i : Nat) (P' R' : Nat) (py' : Nat → Nat) (I' Pd' Wn' G' : Int32) (yI yP yW yG : Int64) (u2 v2 : Nat → Int32) (H : Heap) (locs : List Loc) (ls : Array Slot), min k0 (T - P) < i + n → i ≤ min k0 (T - P) → zIt rt lf i (T, P, py, R0, I, Pd, Wn, G) = (T, P', py', R', I', Pd', Wn', G') → zInv rt lf (T, P', py', R', I', Pd', Wn', G') → zCR rt (T, P', py', R', I', Pd', Wn', G') (yI, yP, yW, yG, u2, v2) → va_P g.1 vwCl [(h, .inr (0, [.int (nI rt), .int (nI lf), .ref pa, .ref da, .int (nI T), .int (nI P'), .long (lN R'), .long yI, .long yP, .long yW, .long yG])), (pa, .inl (g.2.1, 120, .inl u2)), (da, .inl (g.2.1, 121, .inl v2))] H → va_D A [(h, .inr (0, [.int (nI rt), .int (nI lf), .ref pa, .ref da, .int (nI T), .int (nI P'), .long (lN R'), .long yI, .long yP, .long yW, .long yG])), (pa, .inl (g.2.1, 120, .inl u2)), (da, .inl (g.2.1, 121, .inl v2))] → va_S A s.heap H locs → lv_has ls 4 [(3, .int (nI i)), (2, .int (nI (min k0 (T - P)))), (0, .ref h), (1, .int (nI k0))] → W p l e (headSpec wsX0_endsWithin ({ frames := 3, cells := 0, slots := 0, locals := 70 } : Room)).room s m ([.ref h, .int (nI k0)] : List Value).toArray below meth c H locs 0 0 (MQ below (va_Qi (fun q w => (∃ q', w = zLW g (h, pa, da) rt lf (zIt rt lf (min k0 (T - P)) (T, P, py, R0, I, Pd, Wn, G)) q' ∧ zCR rt (zIt rt lf (min k0 (T - P)) (T, P, py, R0, I, Pd, Wn, G)) q') ∧ ((0 < T - P ∧ T - P ≤ k0 ∧ q = nI 1) ∨ (¬ (0 < T - P ∧ T - P ≤ k0) ∧ q = nI 0))) (zOut g A) A) ([.ref h, .int (nI k0)] : List Value).toArray s 0 0 A) (F0 m 11 ls []) := by
    intro n
    induction n with
    | zero =>
      intro i P' R' py' I' Pd' Wn' G' yI yP yW yG u2 v2 H locs ls hn hi hz hZ2 hC2 hP hD hS hl
      omega
    | succ n ih =>
      intro i P' R' py' I' Pd' Wn' G' yI yP yW yG u2 v2 H locs ls hn hi hz hZ2 hC2 hP hD hS hl
      refine lv_iload_n hx hb dX0_endsWithin_11 rfl (lv_at hl 0 rfl) ?_
      refine lv_iload_n hx hb dX0_endsWithin_12 rfl (lv_at hl 1 rfl) ?_
      refine z_icmp_ge (tgt := 26) hx hb dX0_endsWithin_13 (by decide) (by omega) (by omega) (fun hc => ?_) (fun hc => ?_)
      · obtain rfl : i = min k0 (T - P) := by omega
        have hP' : P' = P + min k0 (T - P) := by have z := zIt_P rt lf (T, P, py, R0, I, Pd, Wn, G) (min k0 (T - P)); rw [hz] at z; exact z
        obtain ⟨hT2, hPT2, -, -, -, -⟩ := id hZ2
        refine lv_iload_n hx hb dX0_endsWithin_26 rfl (lv_at hl 1 rfl) ?_
        refine z_if_le (tgt := 41) hx hb dX0_endsWithin_27 (by decide) (by omega) (fun hd => ?_) (fun hd => ?_)
        · refine lv_iconst (v := nI 0) hx hb dX0_endsWithin_41 (by decide) ?_
          exact z_zret hx hb hr (by decide) hP hK hD hS dX0_endsWithin_42 hlocks (⟨⟨(yI, yP, yW, yG, u2, v2), z_w (g := g) (a := (h, pa, da)) (rt := rt) (lf := lf) (q := (yI, yP, yW, yG, u2, v2)) hz, zC_of hz hC2⟩, Or.inr ⟨by omega, rfl⟩⟩)
        · refine lv_aload_n hx hb dX0_endsWithin_30 rfl (lv_at hl 2 rfl) ?_
          refine z_ai (wa := []) (wc := [(h, .inr (0, [.int (nI rt), .int (nI lf), .ref pa, .ref da, .int (nI T), .int (nI P'), .long (lN R'), .long yI, .long yP, .long yW, .long yG])), (pa, .inl (g.2.1, 120, .inl u2)), (da, .inl (g.2.1, 121, .inl v2))]) (wb := []) (va_runV (As := []) (rest := []) ⟨hx, hb, hml, hown, hts⟩ (c_monthsLeft l g h pa da rt lf T P' (lN R') yI yP yW yG u2 v2 hPT2 H.size _ rfl) (cwV 0 hts gX0_endsWithin_X0_monthsLeft rfl rfl rfl (by decide +kernel) ⟨Nat.le_of_ble_eq_true rfl, Nat.le_of_ble_eq_true rfl⟩) (zpreV (wa := []) (wc := [(h, .inr (0, [.int (nI rt), .int (nI lf), .ref pa, .ref da, .int (nI T), .int (nI P'), .long (lN R'), .long yI, .long yP, .long yW, .long yG])), (pa, .inl (g.2.1, 120, .inl u2)), (da, .inl (g.2.1, 121, .inl v2))]) (wb := []) (q0 := 0) (ci := 0) (T := TX0) (N := 11) hK hP hD rfl rfl) rfl rfl hl.1 rfl (lv_room (Nat.le_of_ble_eq_true rfl)) dX0_endsWithin_31 ⟨Nat.le_of_ble_eq_true rfl, Nat.le_of_ble_eq_true rfl⟩) hP hD hS hA (fun r_2 w1 H locs hq hP hD hS => ?_)
          obtain ⟨rfl, rfl⟩ := hq
          have hP : va_P g.1 vwCl [(h, .inr (0, [.int (nI rt), .int (nI lf), .ref pa, .ref da, .int (nI T), .int (nI P'), .long (lN R'), .long yI, .long yP, .long yW, .long yG])), (pa, .inl (g.2.1, 120, .inl u2)), (da, .inl (g.2.1, 121, .inl v2))] H := hP
          have hD : va_D A [(h, .inr (0, [.int (nI rt), .int (nI lf), .ref pa, .ref da, .int (nI T), .int (nI P'), .long (lN R'), .long yI, .long yP, .long yW, .long yG])), (pa, .inl (g.2.1, 120, .inl u2)), (da, .inl (g.2.1, 121, .inl v2))] := hD
          refine z_if_ne (tgt := 41) hx hb dX0_endsWithin_34 (by decide) (by omega) (fun he => ?_) (fun he => ?_)
          · refine lv_iconst (v := nI 0) hx hb dX0_endsWithin_41 (by decide) ?_
            exact z_zret hx hb hr (by decide) hP hK hD hS dX0_endsWithin_42 hlocks (⟨⟨(yI, yP, yW, yG, u2, v2), z_w (g := g) (a := (h, pa, da)) (rt := rt) (lf := lf) (q := (yI, yP, yW, yG, u2, v2)) hz, zC_of hz hC2⟩, Or.inr ⟨by omega, rfl⟩⟩)
          · refine lv_iconst (v := nI 1) hx hb dX0_endsWithin_37 (by decide) ?_
            refine lv_goto (tgt := 42) hx hb dX0_endsWithin_38 (by decide) ?_
            exact z_zret hx hb hr (by decide) hP hK hD hS dX0_endsWithin_42 hlocks (⟨⟨(yI, yP, yW, yG, u2, v2), z_w (g := g) (a := (h, pa, da)) (rt := rt) (lf := lf) (q := (yI, yP, yW, yG, u2, v2)) hz, zC_of hz hC2⟩, Or.inl ⟨by omega, by omega, rfl⟩⟩)
      · have hP' : P' = P + i := by have z := zIt_P rt lf (T, P, py, R0, I, Pd, Wn, G) i; rw [hz] at z; exact z
        refine lv_aload_n hx hb dX0_endsWithin_16 rfl (lv_at hl 2 rfl) ?_
        refine z_av (wa := []) (wc := [(h, .inr (0, [.int (nI rt), .int (nI lf), .ref pa, .ref da, .int (nI T), .int (nI P'), .long (lN R'), .long yI, .long yP, .long yW, .long yG])), (pa, .inl (g.2.1, 120, .inl u2)), (da, .inl (g.2.1, 121, .inl v2))]) (wb := []) (va_runV (As := []) (rest := []) ⟨hx, hb, hml, hown, hts⟩ (c_passOneMonth l g h pa da rt lf T P' R' py' I' Pd' Wn' G' yI yP yW yG u2 v2 hZ2 hC2 (by omega) H.size _ rfl) (cwV 0 hts gX0_endsWithin_X0_passOneMonth rfl rfl rfl (by decide +kernel) ⟨Nat.le_of_ble_eq_true rfl, Nat.le_of_ble_eq_true rfl⟩) (zpreV (wa := []) (wc := [(h, .inr (0, [.int (nI rt), .int (nI lf), .ref pa, .ref da, .int (nI T), .int (nI P'), .long (lN R'), .long yI, .long yP, .long yW, .long yG])), (pa, .inl (g.2.1, 120, .inl u2)), (da, .inl (g.2.1, 121, .inl v2))]) (wb := []) (q0 := 0) (ci := 0) (T := TX0) (N := 11) hK hP hD rfl rfl) rfl rfl hl.1 rfl (lv_room (Nat.le_of_ble_eq_true rfl)) dX0_endsWithin_17 ⟨Nat.le_of_ble_eq_true rfl, Nat.le_of_ble_eq_true rfl⟩) hP hD hS hA (fun w1 H locs hq hP hD hS => ?_)
        obtain ⟨⟨zI, zP, zW, zG, u3, v3⟩, rfl, hC3⟩ := hq
        have hP : va_P g.1 vwCl [(h, .inr (0, [.int (nI rt), .int (nI lf), .ref pa, .ref da, .int (nI T), .int (nI (P' + 1)), .long (lN (R' - R' / zMW lf T P')), .long zI, .long zP, .long zW, .long zG])), (pa, .inl (g.2.1, 120, .inl u3)), (da, .inl (g.2.1, 121, .inl v3))] H := hP
        have hD : va_D A [(h, .inr (0, [.int (nI rt), .int (nI lf), .ref pa, .ref da, .int (nI T), .int (nI (P' + 1)), .long (lN (R' - R' / zMW lf T P')), .long zI, .long zP, .long zW, .long zG])), (pa, .inl (g.2.1, 120, .inl u3)), (da, .inl (g.2.1, 121, .inl v3))] := hD
        refine z_iinc (lv' := [(3, .int (nI (i + 1))), (2, .int (nI (min k0 (T - P)))), (0, .ref h), (1, .int (nI k0))]) hx hb dX0_endsWithin_20 hl (k := 0) rfl (by decide) rfl (fun ls hl => ?_)
        refine lv_goto (tgt := 11) hx hb dX0_endsWithin_23 (by decide) ?_
        exact ih (i + 1) (P' + 1) (R' - R' / zMW lf T P') py' _ _ _ _ zI zP zW zG u3 v3 H _ _ (by omega) (by omega) (by rw [zIt, hz]; rfl) (zInv_month hZ2 (by omega)) hC3 hP hD hS (lv_sub hl [0, 1, 2, 3] rfl)
  exact loop (min k0 (T - P) + 1) 0 P R0 py I Pd Wn G xI xP xW xG u v H _ _ (by omega) (by omega) rfl hZ hC hP hD hS (lv_sub hl [0, 1, 2, 3] rfl)

set_option maxHeartbeats 4000000 in
set_option maxRecDepth 100000 in
theorem c_reviewPayments (l : Launch) (g : zG) (h pa da rt lf T P R0 : Nat) (py : Nat → Nat) (I Pd Wn G : Int32) (xI xP xW xG : Int64) (u v : Nat → Int32) (a0 : Nat) (hZ : zInv rt lf (T, P, py, R0, I, Pd, Wn, G)) (hC : zCR rt (T, P, py, R0, I, Pd, Wn, G) (xI, xP, xW, xG, u, v)) (ha0 : a0 ≤ 200) (hnp : ∀ j, P ≤ j → j < T → zSc a0 py j ≤ 1000000) : zMv l yX0_reviewPayments wsX0_reviewPayments ({ frames := 3, cells := 0, slots := 0, locals := 72 } : Room) [.ref h, .int (nI a0)] g [(h, .inr (0, [.int (nI rt), .int (nI lf), .ref pa, .ref da, .int (nI T), .int (nI P), .long (lN R0), .long xI, .long xP, .long xW, .long xG])), (pa, .inl (g.2.1, 120, .inl u)), (da, .inl (g.2.1, 121, .inl v))] (fun w => ∃ q', w = zLW g (h, pa, da) rt lf (zFol rt T (zSc a0 py) (T, P, py, R0, I, Pd, Wn, G)) q' ∧ zCR rt (zFol rt T (zSc a0 py) (T, P, py, R0, I, Pd, Wn, G)) q') 0 0 := by
  intro sz A hAe
  refine Met.ofW (cc := cX0_reviewPayments) (maxL := 2) (ret := none) (by decide) rfl ?_
  intro p e s m args below meth c s₁ B hml hv
  obtain ⟨rfl, hsz, hP, hK, hD0⟩ := hv
  have hx := B.exec
  have hb := B.bytes
  have hr := B.returns
  have hts := atoms_spec (ws := wsX0_reviewPayments) B.pre
  have hown : s.vm.findClass RX0 = some m.cls := findClass_of_methodNamed B.named
  have hlocks := B.notSynchronized
  obtain ⟨hD, hA, hS⟩ := z_in hsz hAe hD0
  have hl := lv_entry ([.ref h, .int (nI a0)]) (n := 2) (Nat.le_of_ble_eq_true rfl)
  rw [lg_entry_eq]
  generalize (lg_sl ([.ref h, .int (nI a0)]) ++ List.replicate (2 - (lg_sl ([.ref h, .int (nI a0)])).length) Slot.unset).toArray = ls at hl ⊢
  have hl : lv_has ls 2 [(0, .ref h), (1, .int (nI a0))] := hl
  have hinX0 : ∀ w ∈ wsX00, w ∈ wsX0_reviewPayments := by decide +kernel
  obtain ⟨hT, hPT, hrt, hlf, hp, hRb⟩ := id hZ
  obtain ⟨hI, hPd, hWn, hG, hu, hv⟩ := id hC
  have hD0 := z_wb (r := rt) (j := P) hT hp (Nat.le_refl P)
  have hR2 := zInv_R hZ
  refine lv_aload_n hx hb dX0_reviewPayments_0 rfl (lv_at hl 0 rfl) ?_
  refine lv_iload_n hx hb dX0_reviewPayments_1 rfl (lv_at hl 1 rfl) ?_
  refine z_av (wa := []) (wc := [(h, .inr (0, [.int (nI rt), .int (nI lf), .ref pa, .ref da, .int (nI T), .int (nI P), .long (lN R0), .long xI, .long xP, .long xW, .long xG])), (pa, .inl (g.2.1, 120, .inl u)), (da, .inl (g.2.1, 121, .inl v))]) (wb := []) (va_runV (As := [.int (nI a0)]) (rest := []) ⟨hx, hb, hml, hown, hts⟩ (c_scalePayments l g h pa da rt lf T P (lN R0) xI xP xW xG u v py a0 hT hPT hp hu ha0 s.heap.size _ rfl) (cwV 1 hts gX0_reviewPayments_X0_scalePayments rfl rfl rfl (by decide +kernel) ⟨Nat.le_of_ble_eq_true rfl, Nat.le_of_ble_eq_true rfl⟩) (zpreV (wa := []) (wc := [(h, .inr (0, [.int (nI rt), .int (nI lf), .ref pa, .ref da, .int (nI T), .int (nI P), .long (lN R0), .long xI, .long xP, .long xW, .long xG])), (pa, .inl (g.2.1, 120, .inl u)), (da, .inl (g.2.1, 121, .inl v))]) (wb := []) (q0 := 0) (ci := 0) (T := TX0) (N := 11) hK hP hD rfl rfl) rfl rfl hl.1 rfl (lv_room (Nat.le_of_ble_eq_true rfl)) dX0_reviewPayments_2 ⟨Nat.le_of_ble_eq_true rfl, Nat.le_of_ble_eq_true rfl⟩) hP hD hS hA (fun w1 H locs hq hP hD hS => ?_)
  obtain ⟨u2, rfl, hu2⟩ := hq
  have hP : va_P g.1 vwCl [(h, .inr (0, [.int (nI rt), .int (nI lf), .ref pa, .ref da, .int (nI T), .int (nI P), .long (lN R0), .long xI, .long xP, .long xW, .long xG])), (pa, .inl (g.2.1, 120, .inl u2)), (da, .inl (g.2.1, 121, .inl v))] H := hP
  have hD : va_D A [(h, .inr (0, [.int (nI rt), .int (nI lf), .ref pa, .ref da, .int (nI T), .int (nI P), .long (lN R0), .long xI, .long xP, .long xW, .long xG])), (pa, .inl (g.2.1, 120, .inl u2)), (da, .inl (g.2.1, 121, .inl v))] := hD
  refine lv_aload_n hx hb dX0_reviewPayments_5 rfl (lv_at hl 0 rfl) ?_
  refine z_av (wa := []) (wc := [(h, .inr (0, [.int (nI rt), .int (nI lf), .ref pa, .ref da, .int (nI T), .int (nI P), .long (lN R0), .long xI, .long xP, .long xW, .long xG])), (pa, .inl (g.2.1, 120, .inl u2)), (da, .inl (g.2.1, 121, .inl v))]) (wb := []) (va_runV (As := []) (rest := []) ⟨hx, hb, hml, hown, hts⟩ (c_followDebt l g h pa da rt lf T P R0 xI xP xW xG u2 v (zSc a0 py) (zWr rt py T (T - P)) hT hPT hnp hu2 hrt (hv P (Nat.le_refl P) hPT) hD0 hR2 H.size _ rfl) (cwV 0 hts gX0_reviewPayments_X0_followDebt rfl rfl rfl (by decide +kernel) ⟨Nat.le_of_ble_eq_true rfl, Nat.le_of_ble_eq_true rfl⟩) (zpreV (wa := []) (wc := [(h, .inr (0, [.int (nI rt), .int (nI lf), .ref pa, .ref da, .int (nI T), .int (nI P), .long (lN R0), .long xI, .long xP, .long xW, .long xG])), (pa, .inl (g.2.1, 120, .inl u2)), (da, .inl (g.2.1, 121, .inl v))]) (wb := []) (q0 := 0) (ci := 0) (T := TX0) (N := 11) hK hP hD rfl rfl) rfl rfl hl.1 rfl (lv_room (Nat.le_of_ble_eq_true rfl)) dX0_reviewPayments_6 ⟨Nat.le_of_ble_eq_true rfl, Nat.le_of_ble_eq_true rfl⟩) hP hD hS hA (fun w1 H locs hq hP hD hS => ?_)
  obtain ⟨v2, R1, yG, rfl, hv2, hcase⟩ := hq
  have hP : va_P g.1 vwCl [(h, .inr (0, [.int (nI rt), .int (nI lf), .ref pa, .ref da, .int (nI T), .int (nI P), .long (lN R1), .long xI, .long xP, .long xW, .long yG])), (pa, .inl (g.2.1, 120, .inl u2)), (da, .inl (g.2.1, 121, .inl v2))] H := hP
  have hD : va_D A [(h, .inr (0, [.int (nI rt), .int (nI lf), .ref pa, .ref da, .int (nI T), .int (nI P), .long (lN R1), .long xI, .long xP, .long xW, .long yG])), (pa, .inl (g.2.1, 120, .inl u2)), (da, .inl (g.2.1, 121, .inl v2))] := hD
  rcases hcase with ⟨h1, rfl, h3⟩ | ⟨h1, rfl, h3⟩
  · exact z_vret hx hb hr hP hK hD hS dX0_reviewPayments_9 hlocks (⟨(xI, xP, xW, yG, u2, v2), z_w (g := g) (a := (h, pa, da)) (rt := rt) (lf := lf) (q := (xI, xP, xW, yG, u2, v2)) (zFol_lt h1), zC_of (zFol_lt h1) ⟨hI, hPd, hWn, by rw [h3, hG], hu2, hv2⟩⟩)
  · exact z_vret hx hb hr hP hK hD hS dX0_reviewPayments_9 hlocks (⟨(xI, xP, xW, yG, u2, v2), z_w (g := g) (a := (h, pa, da)) (rt := rt) (lf := lf) (q := (xI, xP, xW, yG, u2, v2)) (zFol_ge h1), zC_of (zFol_ge h1) ⟨hI, hPd, hWn, by rw [h3, hG], hu2, hv2⟩⟩)

set_option maxHeartbeats 4000000 in
set_option maxRecDepth 100000 in
theorem c_putBehind (l : Launch) (g : zG) (h pa da rt lf T P R0 : Nat) (py : Nat → Nat) (I Pd Wn G : Int32) (xI xP xW xG : Int64) (u v : Nat → Int32) (k0 x0 : Nat) (hZ : zInv rt lf (T, P, py, R0, I, Pd, Wn, G)) (hC : zCR rt (T, P, py, R0, I, Pd, Wn, G) (xI, xP, xW, xG, u, v)) (hk0 : T + k0 ≤ 120) (hx0 : x0 ≤ 10000) : zMv l yX0_putBehind wsX0_putBehind ({ frames := 3, cells := 0, slots := 0, locals := 72 } : Room) [.ref h, .int (nI k0), .int (nI x0)] g [(h, .inr (0, [.int (nI rt), .int (nI lf), .ref pa, .ref da, .int (nI T), .int (nI P), .long (lN R0), .long xI, .long xP, .long xW, .long xG])), (pa, .inl (g.2.1, 120, .inl u)), (da, .inl (g.2.1, 121, .inl v))] (fun w => ∃ q', w = zLW g (h, pa, da) rt lf (zFol rt (T + k0) (zPut T k0 x0 py) (T, P, py, R0, I, Pd, Wn, G)) q' ∧ zCR rt (zFol rt (T + k0) (zPut T k0 x0 py) (T, P, py, R0, I, Pd, Wn, G)) q') 0 0 := by
  intro sz A hAe
  refine Met.ofW (cc := cX0_putBehind) (maxL := 5) (ret := none) (by decide) rfl ?_
  intro p e s m args below meth c s₁ B hml hv
  obtain ⟨rfl, hsz, hP, hK, hD0⟩ := hv
  have hx := B.exec
  have hb := B.bytes
  have hr := B.returns
  have hts := atoms_spec (ws := wsX0_putBehind) B.pre
  have hown : s.vm.findClass RX0 = some m.cls := findClass_of_methodNamed B.named
  have hlocks := B.notSynchronized
  obtain ⟨hD, hA, hS⟩ := z_in hsz hAe hD0
  have hl := lv_entry ([.ref h, .int (nI k0), .int (nI x0)]) (n := 5) (Nat.le_of_ble_eq_true rfl)
  rw [lg_entry_eq]
  generalize (lg_sl ([.ref h, .int (nI k0), .int (nI x0)]) ++ List.replicate (5 - (lg_sl ([.ref h, .int (nI k0), .int (nI x0)])).length) Slot.unset).toArray = ls at hl ⊢
  have hl : lv_has ls 5 [(0, .ref h), (1, .int (nI k0)), (2, .int (nI x0))] := hl
  have hinX0 : ∀ w ∈ wsX00, w ∈ wsX0_putBehind := by decide +kernel
  obtain ⟨hT, hPT, hrt, hlf, hp, hRb⟩ := id hZ
  obtain ⟨hI, hPd, hWn, hG, hu, hv⟩ := id hC
  have hD0 := z_wb (r := rt) (j := P) hT hp (Nat.le_refl P)
  have hR2 := zInv_R hZ
  have hp2 : ∀ j, P ≤ j → j < T + k0 → zPut T k0 x0 py j ≤ 1000000 := fun j h1 h2 => if hc : T ≤ j ∧ j < T + k0 then (by unfold zPut; rw [if_pos hc]; omega) else (by unfold zPut; rw [if_neg hc]; exact hp j h1 (by omega))
  refine lv_aload_n hx hb dX0_putBehind_0 rfl (lv_at hl 0 rfl) ?_
  refine va_get (D := g.1) (ci := 0) (v := .int (nI T)) (C := RX0) (T := TX0) (N := 11) hx hb hts hinX0 hown hK hP 0 rfl rfl 4 (by decide) (hts (.fieldLink RX0 27 "Usewise$Lease" "term" "I") (by decide +kernel)) (fun _ h9 => h9) rfl dX0_putBehind_1 ?_
  refine lv_iload_n hx hb dX0_putBehind_4 rfl (lv_at hl 1 rfl) ?_
  refine z_iadd hx hb dX0_putBehind_5 ?_
  refine lv_bipush (v := nI 120) hx hb dX0_putBehind_6 (by decide) ?_
  refine va_mmin hx hb (hml.trans hl.1.symm) hown (hts (.methodLink RX0 18 Lib.Math.min.name) (by decide +kernel)) (hts (.static Lib.Math.min.name) (by decide +kernel)) (hts (.initialized "java/lang/Math") (by decide +kernel)) (hts (.code Lib.Math.min.name Lib.Math.min.code 2 (some .int)) (by decide +kernel)) (Nat.le_of_ble_eq_true rfl) (Nat.le_of_ble_eq_true rfl) (Nat.le_of_ble_eq_true rfl) (Nat.le_of_ble_eq_true rfl) dX0_putBehind_8 ?_
  refine zi (y := nI (T + k0)) ((z_min (by omega) (by omega)).trans (by rw [Nat.min_eq_left (by omega)])) ?_
  refine lv_istore_n (lv' := [(3, .int (nI (T + k0))), (0, .ref h), (1, .int (nI k0)), (2, .int (nI x0))]) hx hb dX0_putBehind_11 rfl hl (by decide) rfl (fun ls hl => ?_)
  refine lv_aload_n hx hb dX0_putBehind_12 rfl (lv_at hl 1 rfl) ?_
  refine va_get (D := g.1) (ci := 0) (v := .int (nI T)) (C := RX0) (T := TX0) (N := 11) hx hb hts hinX0 hown hK hP 0 rfl rfl 4 (by decide) (hts (.fieldLink RX0 27 "Usewise$Lease" "term" "I") (by decide +kernel)) (fun _ h9 => h9) rfl dX0_putBehind_13 ?_
  refine lv_istore (lv' := [(4, .int (nI T)), (3, .int (nI (T + k0))), (0, .ref h), (1, .int (nI k0)), (2, .int (nI x0))]) hx hb dX0_putBehind_16 hl (by decide) rfl (fun ls hl => ?_)
  have loop : ∀ (n : Nat) (i : Nat) (u2 : Nat → Int32) (H : Heap) (locs : List Loc) (ls : Array Slot), T + k0 < i + n → T ≤ i → i ≤ T + k0 → (∀ j, j < T → u2 j = u j) → (∀ j, T ≤ j → j < i → u2 j = nI x0) → va_P g.1 vwCl [(h, .inr (0, [.int (nI rt), .int (nI lf), .ref pa, .ref da, .int (nI T), .int (nI P), .long (lN R0), .long xI, .long xP, .long xW, .long xG])), (pa, .inl (g.2.1, 120, .inl u2)), (da, .inl (g.2.1, 121, .inl v))] H → va_D A [(h, .inr (0, [.int (nI rt), .int (nI lf), .ref pa, .ref da, .int (nI T), .int (nI P), .long (lN R0), .long xI, .long xP, .long xW, .long xG])), (pa, .inl (g.2.1, 120, .inl u2)), (da, .inl (g.2.1, 121, .inl v))] → va_S A s.heap H locs → lv_has ls 5 [(4, .int (nI i)), (3, .int (nI (T + k0))), (0, .ref h), (1, .int (nI k0)), (2, .int (nI x0))] → W p l e (headSpec wsX0_putBehind ({ frames := 3, cells := 0, slots := 0, locals := 72 } : Room)).room s m ([.ref h, .int (nI k0), .int (nI x0)] : List Value).toArray below meth c H locs 0 0 (MQ below (va_Qv (fun w => ∃ q', w = zLW g (h, pa, da) rt lf (zFol rt (T + k0) (zPut T k0 x0 py) (T, P, py, R0, I, Pd, Wn, G)) q' ∧ zCR rt (zFol rt (T + k0) (zPut T k0 x0 py) (T, P, py, R0, I, Pd, Wn, G)) q') (zOut g A) A) ([.ref h, .int (nI k0), .int (nI x0)] : List Value).toArray s 0 0 A) (F0 m 18 ls []) := by
    intro n
    induction n with
    | zero =>
      intro i u2 H locs ls hn hi hi2 hu1 hu2 hP hD hS hl
      omega
    | succ n ih =>
      intro i u2 H locs ls hn hi hi2 hu1 hu2 hP hD hS hl
      refine lv_iload hx hb dX0_putBehind_18 (lv_at hl 0 rfl) ?_
      refine lv_iload_n hx hb dX0_putBehind_20 rfl (lv_at hl 1 rfl) ?_
      refine z_icmp_ge (tgt := 40) hx hb dX0_putBehind_21 (by decide) (by omega) (by omega) (fun hc => ?_) (fun hc => ?_)
      · have hu3 : ∀ j, P ≤ j → j < T + k0 → u2 j = nI (zPut T k0 x0 py j) := fun j h1 h2 => if hc : T ≤ j ∧ j < T + k0 then (by unfold zPut; rw [if_pos hc]; exact hu2 j hc.1 (by omega)) else (by unfold zPut; rw [if_neg hc]; exact (hu1 j (by omega)).trans (hu j h1 (by omega)))
        refine lv_aload_n hx hb dX0_putBehind_40 rfl (lv_at hl 2 rfl) ?_
        refine lv_iload_n hx hb dX0_putBehind_41 rfl (lv_at hl 1 rfl) ?_
        refine va_put (D := g.1) (ci := 0) (v := .int (nI (T + k0))) (ty := .int) (C := RX0) (T := TX0) (N := 11) hx hb hts hinX0 tyX0 tyX0_ok nmX0 hown hK hP hD hS 0 rfl rfl 4 (by decide) (hts (.fieldLink RX0 27 "Usewise$Lease" "term" "I") (by decide +kernel)) (fun _ h9 => h9) rfl (by decide +kernel) rfl rfl (Nat.le_of_ble_eq_true rfl) dX0_putBehind_42 (fun H locs hP hD hS => ?_)
        have hP : va_P g.1 vwCl [(h, .inr (0, [.int (nI rt), .int (nI lf), .ref pa, .ref da, .int (nI (T + k0)), .int (nI P), .long (lN R0), .long xI, .long xP, .long xW, .long xG])), (pa, .inl (g.2.1, 120, .inl u2)), (da, .inl (g.2.1, 121, .inl v))] H := hP
        have hD : va_D A [(h, .inr (0, [.int (nI rt), .int (nI lf), .ref pa, .ref da, .int (nI (T + k0)), .int (nI P), .long (lN R0), .long xI, .long xP, .long xW, .long xG])), (pa, .inl (g.2.1, 120, .inl u2)), (da, .inl (g.2.1, 121, .inl v))] := hD
        refine lv_aload_n hx hb dX0_putBehind_45 rfl (lv_at hl 2 rfl) ?_
        refine z_av (wa := []) (wc := [(h, .inr (0, [.int (nI rt), .int (nI lf), .ref pa, .ref da, .int (nI (T + k0)), .int (nI P), .long (lN R0), .long xI, .long xP, .long xW, .long xG])), (pa, .inl (g.2.1, 120, .inl u2)), (da, .inl (g.2.1, 121, .inl v))]) (wb := []) (va_runV (As := []) (rest := []) ⟨hx, hb, hml, hown, hts⟩ (c_followDebt l g h pa da rt lf (T + k0) P R0 xI xP xW xG u2 v (zPut T k0 x0 py) (zWr rt py T (T - P)) hk0 (by omega) hp2 hu3 hrt (hv P (Nat.le_refl P) hPT) hD0 hR2 H.size _ rfl) (cwV 0 hts gX0_putBehind_X0_followDebt rfl rfl rfl (by decide +kernel) ⟨Nat.le_of_ble_eq_true rfl, Nat.le_of_ble_eq_true rfl⟩) (zpreV (wa := []) (wc := [(h, .inr (0, [.int (nI rt), .int (nI lf), .ref pa, .ref da, .int (nI (T + k0)), .int (nI P), .long (lN R0), .long xI, .long xP, .long xW, .long xG])), (pa, .inl (g.2.1, 120, .inl u2)), (da, .inl (g.2.1, 121, .inl v))]) (wb := []) (q0 := 0) (ci := 0) (T := TX0) (N := 11) hK hP hD rfl rfl) rfl rfl hl.1 rfl (lv_room (Nat.le_of_ble_eq_true rfl)) dX0_putBehind_46 ⟨Nat.le_of_ble_eq_true rfl, Nat.le_of_ble_eq_true rfl⟩) hP hD hS hA (fun w1 H locs hq hP hD hS => ?_)
        obtain ⟨v2, R1, yG, rfl, hv2, hcase⟩ := hq
        have hP : va_P g.1 vwCl [(h, .inr (0, [.int (nI rt), .int (nI lf), .ref pa, .ref da, .int (nI (T + k0)), .int (nI P), .long (lN R1), .long xI, .long xP, .long xW, .long yG])), (pa, .inl (g.2.1, 120, .inl u2)), (da, .inl (g.2.1, 121, .inl v2))] H := hP
        have hD : va_D A [(h, .inr (0, [.int (nI rt), .int (nI lf), .ref pa, .ref da, .int (nI (T + k0)), .int (nI P), .long (lN R1), .long xI, .long xP, .long xW, .long yG])), (pa, .inl (g.2.1, 120, .inl u2)), (da, .inl (g.2.1, 121, .inl v2))] := hD
        rcases hcase with ⟨h1, rfl, h3⟩ | ⟨h1, rfl, h3⟩
        · exact z_vret hx hb hr hP hK hD hS dX0_putBehind_49 hlocks (⟨(xI, xP, xW, yG, u2, v2), z_w (g := g) (a := (h, pa, da)) (rt := rt) (lf := lf) (q := (xI, xP, xW, yG, u2, v2)) (zFol_lt h1), zC_of (zFol_lt h1) ⟨hI, hPd, hWn, by rw [h3, hG], hu3, hv2⟩⟩)
        · exact z_vret hx hb hr hP hK hD hS dX0_putBehind_49 hlocks (⟨(xI, xP, xW, yG, u2, v2), z_w (g := g) (a := (h, pa, da)) (rt := rt) (lf := lf) (q := (xI, xP, xW, yG, u2, v2)) (zFol_ge h1), zC_of (zFol_ge h1) ⟨hI, hPd, hWn, by rw [h3, hG], hu3, hv2⟩⟩)
      · refine lv_aload_n hx hb dX0_putBehind_24 rfl (lv_at hl 2 rfl) ?_
        refine va_get (D := g.1) (ci := 0) (v := .ref pa) (C := RX0) (T := TX0) (N := 11) hx hb hts hinX0 hown hK hP 0 rfl rfl 2 (by decide) (hts (.fieldLink RX0 30 "Usewise$Lease" "payments" "[I") (by decide +kernel)) (fun _ h9 => h9) rfl dX0_putBehind_25 ?_
        refine lv_iload hx hb dX0_putBehind_28 (lv_at hl 0 rfl) ?_
        refine lv_iload_n hx hb dX0_putBehind_30 rfl (lv_at hl 4 rfl) ?_
        refine z_av (wa := [(h, .inr (0, [.int (nI rt), .int (nI lf), .ref pa, .ref da, .int (nI T), .int (nI P), .long (lN R0), .long xI, .long xP, .long xW, .long xG]))]) (wc := [(pa, .inl (g.2.1, 120, .inl u2))]) (wb := [(da, .inl (g.2.1, 121, .inl v))]) (va_runS (As := [.ref pa, .int (nI i), .int (nI x0)]) (rest := []) ⟨hx, hb, hml, hown, hts⟩ (c_put l g pa 120 i (nI x0) u2 (by omega) (by decide) H.size _ rfl) (va_cwS 3 hts gX0_putBehind_X0_put rfl rfl rfl (by decide +kernel) ⟨Nat.le_of_ble_eq_true rfl, Nat.le_of_ble_eq_true rfl⟩) (zpreS (wa := [(h, .inr (0, [.int (nI rt), .int (nI lf), .ref pa, .ref da, .int (nI T), .int (nI P), .long (lN R0), .long xI, .long xP, .long xW, .long xG]))]) (wc := [(pa, .inl (g.2.1, 120, .inl u2))]) (wb := [(da, .inl (g.2.1, 121, .inl v))]) hK hP hD) rfl rfl hl.1 rfl (lv_room (Nat.le_of_ble_eq_true rfl)) dX0_putBehind_31 ⟨Nat.le_of_ble_eq_true rfl, Nat.le_of_ble_eq_true rfl⟩) hP hD hS hA (fun w1 H locs hq hP hD hS => ?_)
        obtain rfl := hq
        have hP : va_P g.1 vwCl [(h, .inr (0, [.int (nI rt), .int (nI lf), .ref pa, .ref da, .int (nI T), .int (nI P), .long (lN R0), .long xI, .long xP, .long xW, .long xG])), (pa, .inl (g.2.1, 120, .inl (upd u2 i (nI x0)))), (da, .inl (g.2.1, 121, .inl v))] H := hP
        have hD : va_D A [(h, .inr (0, [.int (nI rt), .int (nI lf), .ref pa, .ref da, .int (nI T), .int (nI P), .long (lN R0), .long xI, .long xP, .long xW, .long xG])), (pa, .inl (g.2.1, 120, .inl (upd u2 i (nI x0)))), (da, .inl (g.2.1, 121, .inl v))] := hD
        refine z_iinc (lv' := [(4, .int (nI (i + 1))), (3, .int (nI (T + k0))), (0, .ref h), (1, .int (nI k0)), (2, .int (nI x0))]) hx hb dX0_putBehind_34 hl (k := 0) rfl (by decide) rfl (fun ls hl => ?_)
        refine lv_goto (tgt := 18) hx hb dX0_putBehind_37 (by decide) ?_
        exact ih (i + 1) (upd u2 i (nI x0)) H _ _ (by omega) (by omega) (by omega) (fun j h1 => (by rw [z_upd_n _ _ (by omega)]; exact hu1 j h1)) (fun j h1 h2 => if hj : j = i then (by rw [hj, z_upd_s]) else (by rw [z_upd_n _ _ hj]; exact hu2 j h1 (by omega))) hP hD hS (lv_sub hl [0, 1, 2, 3, 4] rfl)
  exact loop (k0 + 1) T u _ _ _ (by omega) (by omega) (by omega) (fun j _ => rfl) (fun j h1 h2 => absurd h2 (by omega)) hP hD hS (lv_sub hl [0, 1, 2, 3, 4] rfl)

set_option maxHeartbeats 4000000 in
set_option maxRecDepth 100000 in
theorem c_takeOffTheEnd (l : Launch) (g : zG) (h pa da rt lf T P R0 : Nat) (py : Nat → Nat) (I Pd Wn G : Int32) (xI xP xW xG : Int64) (u v : Nat → Int32) (k0 : Nat) (hZ : zInv rt lf (T, P, py, R0, I, Pd, Wn, G)) (hC : zCR rt (T, P, py, R0, I, Pd, Wn, G) (xI, xP, xW, xG, u, v)) (hk0 : k0 < T - P) : zMi l yX0_takeOffTheEnd wsX0_takeOffTheEnd ({ frames := 3, cells := 0, slots := 0, locals := 76 } : Room) [.ref h, .int (nI k0)] g [(h, .inr (0, [.int (nI rt), .int (nI lf), .ref pa, .ref da, .int (nI T), .int (nI P), .long (lN R0), .long xI, .long xP, .long xW, .long xG])), (pa, .inl (g.2.1, 120, .inl u)), (da, .inl (g.2.1, 121, .inl v))] (fun q w => q = zGn rt (T - k0) py (R0 * (T - k0 - P) / (T - P)) (T, P, py, R0, I, Pd, Wn, G) ∧ ∃ q', w = zLW g (h, pa, da) rt lf (zGiv rt (T - k0) py (R0 * (T - k0 - P) / (T - P)) (T, P, py, R0, I, Pd, Wn, G)) q' ∧ zCR rt (zGiv rt (T - k0) py (R0 * (T - k0 - P) / (T - P)) (T, P, py, R0, I, Pd, Wn, G)) q') 0 0 := by
  intro sz A hAe
  refine Met.ofW (cc := cX0_takeOffTheEnd) (maxL := 3) (ret := some .int) (by decide) rfl ?_
  intro p e s m args below meth c s₁ B hml hv
  obtain ⟨rfl, hsz, hP, hK, hD0⟩ := hv
  have hx := B.exec
  have hb := B.bytes
  have hr := B.returns
  have hts := atoms_spec (ws := wsX0_takeOffTheEnd) B.pre
  have hown : s.vm.findClass RX0 = some m.cls := findClass_of_methodNamed B.named
  have hlocks := B.notSynchronized
  obtain ⟨hD, hA, hS⟩ := z_in hsz hAe hD0
  have hl := lv_entry ([.ref h, .int (nI k0)]) (n := 3) (Nat.le_of_ble_eq_true rfl)
  rw [lg_entry_eq]
  generalize (lg_sl ([.ref h, .int (nI k0)]) ++ List.replicate (3 - (lg_sl ([.ref h, .int (nI k0)])).length) Slot.unset).toArray = ls at hl ⊢
  have hl : lv_has ls 3 [(0, .ref h), (1, .int (nI k0))] := hl
  have hinX0 : ∀ w ∈ wsX00, w ∈ wsX0_takeOffTheEnd := by decide +kernel
  obtain ⟨hT, hPT, hrt, hlf, hp, hRb⟩ := id hZ
  obtain ⟨hI, hPd, hWn, hG, hu, hv⟩ := id hC
  have hD0 := z_wb (r := rt) (j := P) hT hp (Nat.le_refl P)
  have hR2 := zInv_R hZ
  refine lv_aload_n hx hb dX0_takeOffTheEnd_0 rfl (lv_at hl 0 rfl) ?_
  refine z_ai (wa := []) (wc := [(h, .inr (0, [.int (nI rt), .int (nI lf), .ref pa, .ref da, .int (nI T), .int (nI P), .long (lN R0), .long xI, .long xP, .long xW, .long xG])), (pa, .inl (g.2.1, 120, .inl u)), (da, .inl (g.2.1, 121, .inl v))]) (wb := []) (va_runV (As := []) (rest := []) ⟨hx, hb, hml, hown, hts⟩ (c_monthsLeft l g h pa da rt lf T P (lN R0) xI xP xW xG u v hPT s.heap.size _ rfl) (cwV 0 hts gX0_takeOffTheEnd_X0_monthsLeft rfl rfl rfl (by decide +kernel) ⟨Nat.le_of_ble_eq_true rfl, Nat.le_of_ble_eq_true rfl⟩) (zpreV (wa := []) (wc := [(h, .inr (0, [.int (nI rt), .int (nI lf), .ref pa, .ref da, .int (nI T), .int (nI P), .long (lN R0), .long xI, .long xP, .long xW, .long xG])), (pa, .inl (g.2.1, 120, .inl u)), (da, .inl (g.2.1, 121, .inl v))]) (wb := []) (q0 := 0) (ci := 0) (T := TX0) (N := 11) hK hP hD rfl rfl) rfl rfl hl.1 rfl (lv_room (Nat.le_of_ble_eq_true rfl)) dX0_takeOffTheEnd_1 ⟨Nat.le_of_ble_eq_true rfl, Nat.le_of_ble_eq_true rfl⟩) hP hD hS hA (fun r_1 w1 H locs hq hP hD hS => ?_)
  obtain ⟨rfl, rfl⟩ := hq
  have hP : va_P g.1 vwCl [(h, .inr (0, [.int (nI rt), .int (nI lf), .ref pa, .ref da, .int (nI T), .int (nI P), .long (lN R0), .long xI, .long xP, .long xW, .long xG])), (pa, .inl (g.2.1, 120, .inl u)), (da, .inl (g.2.1, 121, .inl v))] H := hP
  have hD : va_D A [(h, .inr (0, [.int (nI rt), .int (nI lf), .ref pa, .ref da, .int (nI T), .int (nI P), .long (lN R0), .long xI, .long xP, .long xW, .long xG])), (pa, .inl (g.2.1, 120, .inl u)), (da, .inl (g.2.1, 121, .inl v))] := hD
  refine lv_istore_n (lv' := [(2, .int (nI (T - P))), (0, .ref h), (1, .int (nI k0))]) hx hb dX0_takeOffTheEnd_4 rfl hl (by decide) rfl (fun ls hl => ?_)
  refine lv_aload_n hx hb dX0_takeOffTheEnd_5 rfl (lv_at hl 1 rfl) ?_
  refine lv_dup hx hb dX0_takeOffTheEnd_6 rfl ?_
  refine va_get (D := g.1) (ci := 0) (v := .int (nI T)) (C := RX0) (T := TX0) (N := 11) hx hb hts hinX0 hown hK hP 0 rfl rfl 4 (by decide) (hts (.fieldLink RX0 27 "Usewise$Lease" "term" "I") (by decide +kernel)) (fun _ h9 => h9) rfl dX0_takeOffTheEnd_7 ?_
  refine lv_iload_n hx hb dX0_takeOffTheEnd_10 rfl (lv_at hl 2 rfl) ?_
  refine z_isub hx hb dX0_takeOffTheEnd_11 (by omega) ?_
  refine va_put (D := g.1) (ci := 0) (v := .int (nI (T - k0))) (ty := .int) (C := RX0) (T := TX0) (N := 11) hx hb hts hinX0 tyX0 tyX0_ok nmX0 hown hK hP hD hS 0 rfl rfl 4 (by decide) (hts (.fieldLink RX0 27 "Usewise$Lease" "term" "I") (by decide +kernel)) (fun _ h9 => h9) rfl (by decide +kernel) rfl rfl (Nat.le_of_ble_eq_true rfl) dX0_takeOffTheEnd_12 (fun H locs hP hD hS => ?_)
  have hP : va_P g.1 vwCl [(h, .inr (0, [.int (nI rt), .int (nI lf), .ref pa, .ref da, .int (nI (T - k0)), .int (nI P), .long (lN R0), .long xI, .long xP, .long xW, .long xG])), (pa, .inl (g.2.1, 120, .inl u)), (da, .inl (g.2.1, 121, .inl v))] H := hP
  have hD : va_D A [(h, .inr (0, [.int (nI rt), .int (nI lf), .ref pa, .ref da, .int (nI (T - k0)), .int (nI P), .long (lN R0), .long xI, .long xP, .long xW, .long xG])), (pa, .inl (g.2.1, 120, .inl u)), (da, .inl (g.2.1, 121, .inl v))] := hD
  refine lv_aload_n hx hb dX0_takeOffTheEnd_15 rfl (lv_at hl 1 rfl) ?_
  refine lv_iload_n hx hb dX0_takeOffTheEnd_16 rfl (lv_at hl 0 rfl) ?_
  refine lv_iconst (v := nI 1) hx hb dX0_takeOffTheEnd_17 (by decide) ?_
  refine z_icmp_ge (tgt := 25) hx hb dX0_takeOffTheEnd_18 (by decide) (by omega) (by omega) (fun hc => ?_) (fun hc => ?_)
  · refine lv_aload_n hx hb dX0_takeOffTheEnd_25 rfl (lv_at hl 1 rfl) ?_
    refine va_get (D := g.1) (ci := 0) (v := .long (lN R0)) (C := RX0) (T := TX0) (N := 11) hx hb hts hinX0 hown hK hP 0 rfl rfl 6 (by decide) (hts (.fieldLink RX0 48 "Usewise$Lease" "right" "J") (by decide +kernel)) (fun _ h9 => h9) rfl dX0_takeOffTheEnd_26 ?_
    refine lv_aload_n hx hb dX0_takeOffTheEnd_29 rfl (lv_at hl 1 rfl) ?_
    refine z_ai (wa := []) (wc := [(h, .inr (0, [.int (nI rt), .int (nI lf), .ref pa, .ref da, .int (nI (T - k0)), .int (nI P), .long (lN R0), .long xI, .long xP, .long xW, .long xG])), (pa, .inl (g.2.1, 120, .inl u)), (da, .inl (g.2.1, 121, .inl v))]) (wb := []) (va_runV (As := []) (rest := [.long (lN R0), .ref h]) ⟨hx, hb, hml, hown, hts⟩ (c_monthsLeft l g h pa da rt lf (T - k0) P (lN R0) xI xP xW xG u v (by omega) H.size _ rfl) (cwV 0 hts gX0_takeOffTheEnd_X0_monthsLeft rfl rfl rfl (by decide +kernel) ⟨Nat.le_of_ble_eq_true rfl, Nat.le_of_ble_eq_true rfl⟩) (zpreV (wa := []) (wc := [(h, .inr (0, [.int (nI rt), .int (nI lf), .ref pa, .ref da, .int (nI (T - k0)), .int (nI P), .long (lN R0), .long xI, .long xP, .long xW, .long xG])), (pa, .inl (g.2.1, 120, .inl u)), (da, .inl (g.2.1, 121, .inl v))]) (wb := []) (q0 := 0) (ci := 0) (T := TX0) (N := 11) hK hP hD rfl rfl) rfl rfl hl.1 rfl (lv_room (Nat.le_of_ble_eq_true rfl)) dX0_takeOffTheEnd_30 ⟨Nat.le_of_ble_eq_true rfl, Nat.le_of_ble_eq_true rfl⟩) hP hD hS hA (fun r_2 w1 H locs hq hP hD hS => ?_)
    obtain ⟨rfl, rfl⟩ := hq
    have hP : va_P g.1 vwCl [(h, .inr (0, [.int (nI rt), .int (nI lf), .ref pa, .ref da, .int (nI (T - k0)), .int (nI P), .long (lN R0), .long xI, .long xP, .long xW, .long xG])), (pa, .inl (g.2.1, 120, .inl u)), (da, .inl (g.2.1, 121, .inl v))] H := hP
    have hD : va_D A [(h, .inr (0, [.int (nI rt), .int (nI lf), .ref pa, .ref da, .int (nI (T - k0)), .int (nI P), .long (lN R0), .long xI, .long xP, .long xW, .long xG])), (pa, .inl (g.2.1, 120, .inl u)), (da, .inl (g.2.1, 121, .inl v))] := hD
    have hRm : R0 * (T - k0 - P) ≤ 240000000 * 120 := Nat.mul_le_mul hR2 (by omega)
    refine z_i2l hx hb dX0_takeOffTheEnd_33 (by omega) ?_
    refine z_lmul hx hb dX0_takeOffTheEnd_34 ?_
    refine lv_iload_n hx hb dX0_takeOffTheEnd_35 rfl (lv_at hl 0 rfl) ?_
    refine z_i2l hx hb dX0_takeOffTheEnd_36 (by omega) ?_
    refine z_ldiv hx hb dX0_takeOffTheEnd_37 (by omega) (by omega) (by omega) ?_
    refine z_ai (wa := []) (wc := [(h, .inr (0, [.int (nI rt), .int (nI lf), .ref pa, .ref da, .int (nI (T - k0)), .int (nI P), .long (lN R0), .long xI, .long xP, .long xW, .long xG])), (pa, .inl (g.2.1, 120, .inl u)), (da, .inl (g.2.1, 121, .inl v))]) (wb := []) (va_runV (As := [.long (lN ((R0 * (T - k0 - P)) / (T - P)))]) (rest := []) ⟨hx, hb, hml, hown, hts⟩ (c_giveUp l g h pa da rt lf (T - k0) P R0 xI xP xW xG u v py (zWr rt py T (T - P)) (R0 * (T - k0 - P) / (T - P)) (by omega) (by omega) (fun j h1 h2 => hp j h1 (by omega)) (fun j h1 h2 => hu j h1 (by omega)) hrt (hv P (Nat.le_refl P) hPT) hD0 H.size _ rfl) (cwV 1 hts gX0_takeOffTheEnd_X0_giveUp rfl rfl rfl (by decide +kernel) ⟨Nat.le_of_ble_eq_true rfl, Nat.le_of_ble_eq_true rfl⟩) (zpreV (wa := []) (wc := [(h, .inr (0, [.int (nI rt), .int (nI lf), .ref pa, .ref da, .int (nI (T - k0)), .int (nI P), .long (lN R0), .long xI, .long xP, .long xW, .long xG])), (pa, .inl (g.2.1, 120, .inl u)), (da, .inl (g.2.1, 121, .inl v))]) (wb := []) (q0 := 0) (ci := 0) (T := TX0) (N := 11) hK hP hD rfl rfl) rfl rfl hl.1 rfl (lv_room (Nat.le_of_ble_eq_true rfl)) dX0_takeOffTheEnd_38 ⟨Nat.le_of_ble_eq_true rfl, Nat.le_of_ble_eq_true rfl⟩) hP hD hS hA (fun r_3 w1 H locs hq hP hD hS => ?_)
    obtain ⟨v2, yG, rfl, hv2, rfl, hg⟩ := hq
    have hP : va_P g.1 vwCl [(h, .inr (0, [.int (nI rt), .int (nI lf), .ref pa, .ref da, .int (nI (T - k0)), .int (nI P), .long (lN (R0 * (T - k0 - P) / (T - P))), .long xI, .long xP, .long xW, .long yG])), (pa, .inl (g.2.1, 120, .inl u)), (da, .inl (g.2.1, 121, .inl v2))] H := hP
    have hD : va_D A [(h, .inr (0, [.int (nI rt), .int (nI lf), .ref pa, .ref da, .int (nI (T - k0)), .int (nI P), .long (lN (R0 * (T - k0 - P) / (T - P))), .long xI, .long xP, .long xW, .long yG])), (pa, .inl (g.2.1, 120, .inl u)), (da, .inl (g.2.1, 121, .inl v2))] := hD
    exact z_iret hx hb hr hP hK hD hS dX0_takeOffTheEnd_41 hlocks (⟨rfl, (xI, xP, xW, yG, u, v2), rfl, hI, hPd, hWn, (by rw [hg, hG]; rfl), fun j h1 h2 => hu j h1 (by omega), hv2⟩)
  · exact absurd hc (by omega)

set_option maxHeartbeats 4000000 in
set_option maxRecDepth 100000 in
theorem c_keepPart (l : Launch) (g : zG) (h pa da rt lf T P R0 : Nat) (py : Nat → Nat) (I Pd Wn G : Int32) (xI xP xW xG : Int64) (u v : Nat → Int32) (a0 : Nat) (hZ : zInv rt lf (T, P, py, R0, I, Pd, Wn, G)) (hC : zCR rt (T, P, py, R0, I, Pd, Wn, G) (xI, xP, xW, xG, u, v)) (ha0 : a0 ≤ 99) : zMi l yX0_keepPart wsX0_keepPart ({ frames := 3, cells := 0, slots := 0, locals := 76 } : Room) [.ref h, .int (nI a0)] g [(h, .inr (0, [.int (nI rt), .int (nI lf), .ref pa, .ref da, .int (nI T), .int (nI P), .long (lN R0), .long xI, .long xP, .long xW, .long xG])), (pa, .inl (g.2.1, 120, .inl u)), (da, .inl (g.2.1, 121, .inl v))] (fun q w => q = zGn rt T (zSc a0 py) (R0 * a0 / 100) (T, P, py, R0, I, Pd, Wn, G) ∧ ∃ q', w = zLW g (h, pa, da) rt lf (zGiv rt T (zSc a0 py) (R0 * a0 / 100) (T, P, py, R0, I, Pd, Wn, G)) q' ∧ zCR rt (zGiv rt T (zSc a0 py) (R0 * a0 / 100) (T, P, py, R0, I, Pd, Wn, G)) q') 0 0 := by
  intro sz A hAe
  refine Met.ofW (cc := cX0_keepPart) (maxL := 2) (ret := some .int) (by decide) rfl ?_
  intro p e s m args below meth c s₁ B hml hv
  obtain ⟨rfl, hsz, hP, hK, hD0⟩ := hv
  have hx := B.exec
  have hb := B.bytes
  have hr := B.returns
  have hts := atoms_spec (ws := wsX0_keepPart) B.pre
  have hown : s.vm.findClass RX0 = some m.cls := findClass_of_methodNamed B.named
  have hlocks := B.notSynchronized
  obtain ⟨hD, hA, hS⟩ := z_in hsz hAe hD0
  have hl := lv_entry ([.ref h, .int (nI a0)]) (n := 2) (Nat.le_of_ble_eq_true rfl)
  rw [lg_entry_eq]
  generalize (lg_sl ([.ref h, .int (nI a0)]) ++ List.replicate (2 - (lg_sl ([.ref h, .int (nI a0)])).length) Slot.unset).toArray = ls at hl ⊢
  have hl : lv_has ls 2 [(0, .ref h), (1, .int (nI a0))] := hl
  have hinX0 : ∀ w ∈ wsX00, w ∈ wsX0_keepPart := by decide +kernel
  obtain ⟨hT, hPT, hrt, hlf, hp, hRb⟩ := id hZ
  obtain ⟨hI, hPd, hWn, hG, hu, hv⟩ := id hC
  have hD0 := z_wb (r := rt) (j := P) hT hp (Nat.le_refl P)
  have hR2 := zInv_R hZ
  refine lv_aload_n hx hb dX0_keepPart_0 rfl (lv_at hl 0 rfl) ?_
  refine lv_iload_n hx hb dX0_keepPart_1 rfl (lv_at hl 1 rfl) ?_
  have hp2 : ∀ j, P ≤ j → j < T → zSc a0 py j ≤ 1000000 := fun j h1 h2 => by have z := hp j h1 h2; have z2 : py j * a0 ≤ py j * 100 := Nat.mul_le_mul_left _ (by omega); unfold zSc; omega
  refine z_av (wa := []) (wc := [(h, .inr (0, [.int (nI rt), .int (nI lf), .ref pa, .ref da, .int (nI T), .int (nI P), .long (lN R0), .long xI, .long xP, .long xW, .long xG])), (pa, .inl (g.2.1, 120, .inl u)), (da, .inl (g.2.1, 121, .inl v))]) (wb := []) (va_runV (As := [.int (nI a0)]) (rest := []) ⟨hx, hb, hml, hown, hts⟩ (c_scalePayments l g h pa da rt lf T P (lN R0) xI xP xW xG u v py a0 hT hPT hp hu (by omega) s.heap.size _ rfl) (cwV 1 hts gX0_keepPart_X0_scalePayments rfl rfl rfl (by decide +kernel) ⟨Nat.le_of_ble_eq_true rfl, Nat.le_of_ble_eq_true rfl⟩) (zpreV (wa := []) (wc := [(h, .inr (0, [.int (nI rt), .int (nI lf), .ref pa, .ref da, .int (nI T), .int (nI P), .long (lN R0), .long xI, .long xP, .long xW, .long xG])), (pa, .inl (g.2.1, 120, .inl u)), (da, .inl (g.2.1, 121, .inl v))]) (wb := []) (q0 := 0) (ci := 0) (T := TX0) (N := 11) hK hP hD rfl rfl) rfl rfl hl.1 rfl (lv_room (Nat.le_of_ble_eq_true rfl)) dX0_keepPart_2 ⟨Nat.le_of_ble_eq_true rfl, Nat.le_of_ble_eq_true rfl⟩) hP hD hS hA (fun w1 H locs hq hP hD hS => ?_)
  obtain ⟨u2, rfl, hu2⟩ := hq
  have hP : va_P g.1 vwCl [(h, .inr (0, [.int (nI rt), .int (nI lf), .ref pa, .ref da, .int (nI T), .int (nI P), .long (lN R0), .long xI, .long xP, .long xW, .long xG])), (pa, .inl (g.2.1, 120, .inl u2)), (da, .inl (g.2.1, 121, .inl v))] H := hP
  have hD : va_D A [(h, .inr (0, [.int (nI rt), .int (nI lf), .ref pa, .ref da, .int (nI T), .int (nI P), .long (lN R0), .long xI, .long xP, .long xW, .long xG])), (pa, .inl (g.2.1, 120, .inl u2)), (da, .inl (g.2.1, 121, .inl v))] := hD
  refine lv_aload_n hx hb dX0_keepPart_5 rfl (lv_at hl 0 rfl) ?_
  refine lv_aload_n hx hb dX0_keepPart_6 rfl (lv_at hl 0 rfl) ?_
  refine va_get (D := g.1) (ci := 0) (v := .long (lN R0)) (C := RX0) (T := TX0) (N := 11) hx hb hts hinX0 hown hK hP 0 rfl rfl 6 (by decide) (hts (.fieldLink RX0 48 "Usewise$Lease" "right" "J") (by decide +kernel)) (fun _ h9 => h9) rfl dX0_keepPart_7 ?_
  refine lv_iload_n hx hb dX0_keepPart_10 rfl (lv_at hl 1 rfl) ?_
  refine z_al (wa := [(h, .inr (0, [.int (nI rt), .int (nI lf), .ref pa, .ref da, .int (nI T), .int (nI P), .long (lN R0), .long xI, .long xP, .long xW, .long xG])), (pa, .inl (g.2.1, 120, .inl u2)), (da, .inl (g.2.1, 121, .inl v))]) (wc := []) (wb := []) (va_runS (As := [.long (lN R0), .int (nI a0)]) (rest := [.ref h]) ⟨hx, hb, hml, hown, hts⟩ (c_percentOf l g R0 a0 (by omega) (by omega) H.size _ rfl) (va_cwS 2 hts gX0_keepPart_X0_percentOf rfl rfl rfl (by decide +kernel) ⟨Nat.le_of_ble_eq_true rfl, Nat.le_of_ble_eq_true rfl⟩) (zpreS (wa := [(h, .inr (0, [.int (nI rt), .int (nI lf), .ref pa, .ref da, .int (nI T), .int (nI P), .long (lN R0), .long xI, .long xP, .long xW, .long xG])), (pa, .inl (g.2.1, 120, .inl u2)), (da, .inl (g.2.1, 121, .inl v))]) (wc := []) (wb := []) hK hP hD) rfl rfl hl.1 rfl (lv_room (Nat.le_of_ble_eq_true rfl)) dX0_keepPart_11 ⟨Nat.le_of_ble_eq_true rfl, Nat.le_of_ble_eq_true rfl⟩) hP hD hS hA (fun r_2 w1 H locs hq hP hD hS => ?_)
  obtain ⟨rfl, rfl⟩ := hq
  have hP : va_P g.1 vwCl [(h, .inr (0, [.int (nI rt), .int (nI lf), .ref pa, .ref da, .int (nI T), .int (nI P), .long (lN R0), .long xI, .long xP, .long xW, .long xG])), (pa, .inl (g.2.1, 120, .inl u2)), (da, .inl (g.2.1, 121, .inl v))] H := hP
  have hD : va_D A [(h, .inr (0, [.int (nI rt), .int (nI lf), .ref pa, .ref da, .int (nI T), .int (nI P), .long (lN R0), .long xI, .long xP, .long xW, .long xG])), (pa, .inl (g.2.1, 120, .inl u2)), (da, .inl (g.2.1, 121, .inl v))] := hD
  refine z_ai (wa := []) (wc := [(h, .inr (0, [.int (nI rt), .int (nI lf), .ref pa, .ref da, .int (nI T), .int (nI P), .long (lN R0), .long xI, .long xP, .long xW, .long xG])), (pa, .inl (g.2.1, 120, .inl u2)), (da, .inl (g.2.1, 121, .inl v))]) (wb := []) (va_runV (As := [.long (lN (R0 * a0 / 100))]) (rest := []) ⟨hx, hb, hml, hown, hts⟩ (c_giveUp l g h pa da rt lf T P R0 xI xP xW xG u2 v (zSc a0 py) (zWr rt py T (T - P)) (R0 * a0 / 100) hT hPT hp2 hu2 hrt (hv P (Nat.le_refl P) hPT) hD0 H.size _ rfl) (cwV 1 hts gX0_keepPart_X0_giveUp rfl rfl rfl (by decide +kernel) ⟨Nat.le_of_ble_eq_true rfl, Nat.le_of_ble_eq_true rfl⟩) (zpreV (wa := []) (wc := [(h, .inr (0, [.int (nI rt), .int (nI lf), .ref pa, .ref da, .int (nI T), .int (nI P), .long (lN R0), .long xI, .long xP, .long xW, .long xG])), (pa, .inl (g.2.1, 120, .inl u2)), (da, .inl (g.2.1, 121, .inl v))]) (wb := []) (q0 := 0) (ci := 0) (T := TX0) (N := 11) hK hP hD rfl rfl) rfl rfl hl.1 rfl (lv_room (Nat.le_of_ble_eq_true rfl)) dX0_keepPart_14 ⟨Nat.le_of_ble_eq_true rfl, Nat.le_of_ble_eq_true rfl⟩) hP hD hS hA (fun r_3 w1 H locs hq hP hD hS => ?_)
  obtain ⟨v2, yG, rfl, hv2, rfl, hg⟩ := hq
  have hP : va_P g.1 vwCl [(h, .inr (0, [.int (nI rt), .int (nI lf), .ref pa, .ref da, .int (nI T), .int (nI P), .long (lN (R0 * a0 / 100)), .long xI, .long xP, .long xW, .long yG])), (pa, .inl (g.2.1, 120, .inl u2)), (da, .inl (g.2.1, 121, .inl v2))] H := hP
  have hD : va_D A [(h, .inr (0, [.int (nI rt), .int (nI lf), .ref pa, .ref da, .int (nI T), .int (nI P), .long (lN (R0 * a0 / 100)), .long xI, .long xP, .long xW, .long yG])), (pa, .inl (g.2.1, 120, .inl u2)), (da, .inl (g.2.1, 121, .inl v2))] := hD
  exact z_iret hx hb hr hP hK hD hS dX0_keepPart_17 hlocks (⟨rfl, (xI, xP, xW, yG, u2, v2), rfl, hI, hPd, hWn, (by rw [hg, hG]; rfl), hu2, hv2⟩)
