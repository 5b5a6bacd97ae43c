/-! the class Usewise: its calls on a lease that is there, more -/
/-- the least rate at which the payments to come are worth no more than x; none: -1 -/
def zRate (py : Nat → Nat) (T P x : Nat) (q : Int32) : Prop := (q = (-1) ∧ x < zWr 20000 py T (T - P)) ∨ ∃ k, q = nI k ∧ k ≤ 20000 ∧ zWr k py T (T - P) ≤ x ∧ ∀ i, i < k → x < zWr i py T (T - P)
theorem zRate_one {py : Nat → Nat} {T P x : Nat} {q q' : Int32} (h : zRate py T P x q) (h' : zRate py T P x q') : q = q' := by
  rcases h with ⟨h1, h2⟩ | ⟨k, h1, h2, h3, h4⟩ <;> rcases h' with ⟨g1, g2⟩ | ⟨k', g1, g2, g3, g4⟩
  · rw [h1, g1]
  · exact absurd (Nat.lt_of_lt_of_le h2 (zWr_anti g2 py T (T - P))) (Nat.not_lt.mpr g3)
  · exact absurd (Nat.lt_of_lt_of_le g2 (zWr_anti h2 py T (T - P))) (Nat.not_lt.mpr h3)
  · rcases Nat.lt_trichotomy k k' with z | z | z
    · exact absurd (g4 k z) (Nat.not_lt.mpr h3)
    · rw [h1, g1, z]
    · exact absurd (h4 k' z) (Nat.not_lt.mpr g3)
/-- the gain of a sale leased back -/
def zSale (D : Nat) (x1 x2 : Int32) : Int32 := if zN x2 ≤ D then 0 else (((x2 - x1).toInt64 * lN (zN x2 - D)) / lN (zN x2)).toInt32
set_option maxHeartbeats 4000000 in
set_option maxRecDepth 100000 in
theorem p_lengthen (l : Launch) (hst : l.stackTraces = false) (g : zG) (ua ar cnt : Nat) (rows : Nat → Option Nat) (j : Nat) (h pa da rt lf T P R0 : Nat) (py : Nat → Nat) (I Pd Wn G : Int32) (xI xP xW xG : Int64) (u v : Nat → Int32) (x1 x2 : Int32) (hj : j < 6) (hrow : rows j = some h) (hZ : zInv rt lf (T, P, py, R0, I, Pd, Wn, G)) (hC : zCR rt (T, P, py, R0, I, Pd, Wn, G) (xI, xP, xW, xG, u, v)) : zXi l yX1_lengthen wsX1_lengthen ({ frames := 7, cells := 5, slots := 30, locals := 125 } : Room) [.ref ua, .int (nI j), .int x1, .int x2] g [(ua, .inr (1, [.ref ar, .int (nI cnt)])), (ar, .inl (g.2.2.1, 6, .inr (.inr (.inr (.inr rows))))), (h, .inr (0, [.int (nI rt), .int (nI lf), .ref pa, .ref da, .int (nI T), .int (nI P), .long (lN R0), .long xI, .long xP, .long xW, .long xG])), (pa, .inl (g.2.1, 120, .inl u)), (da, .inl (g.2.1, 121, .inl v))] (fun q w => ((nI 1 ≤ x1 ∧ x1 ≤ nI 36) ∧ (nI 0 ≤ x2 ∧ x2 ≤ nI 10000)) ∧ (P < T ∧ T + zN x1 ≤ 120) ∧ q = nI (zWr rt (zPut T (zN x1) (zN x2) py) (T + zN x1) (T + zN x1 - P)) ∧ ∃ q', w = [(ua, .inr (1, [.ref ar, .int (nI cnt)])), (ar, .inl (g.2.2.1, 6, .inr (.inr (.inr (.inr rows)))))] ++ zLW g (h, pa, da) rt lf (zFol rt (T + zN x1) (zPut T (zN x1) (zN x2) py) (T, P, py, R0, I, Pd, Wn, G)) q' ∧ zCR rt (zFol rt (T + zN x1) (zPut T (zN x1) (zN x2) py) (T, P, py, R0, I, Pd, Wn, G)) q') (fun E => (E = "java/lang/IllegalArgumentException" ∧ ¬ ((nI 1 ≤ x1 ∧ x1 ≤ nI 36) ∧ (nI 0 ≤ x2 ∧ x2 ≤ nI 10000))) ∨ (E = "java/lang/IllegalStateException" ∧ ((nI 1 ≤ x1 ∧ x1 ≤ nI 36) ∧ (nI 0 ≤ x2 ∧ x2 ≤ nI 10000)) ∧ ¬ (P < T ∧ T + zN x1 ≤ 120))) 5 30 := by
  intro sz A hAe
  refine vx_ofW (cc := cX1_lengthen) (maxL := 5) (ret := some .int) (by decide) rfl ?_
  intro p e s m args below meth c s₁ B hml hout hv
  obtain ⟨rfl, ⟨hsz, hP, hK, hD0⟩, hX⟩ := hv
  have hx := B.exec
  have hb := B.bytes
  have hr := B.returns
  have hts := atoms_spec (ws := wsX1_lengthen) B.pre
  have hown : s.vm.findClass RX1 = some m.cls := findClass_of_methodNamed B.named
  have hlocks := B.notSynchronized
  obtain ⟨hD, hA, hS⟩ := z_in hsz hAe hD0
  have hl := lv_entry ([.ref ua, .int (nI j), .int x1, .int x2]) (n := 5) (Nat.le_of_ble_eq_true rfl)
  rw [lg_entry_eq]
  generalize (lg_sl ([.ref ua, .int (nI j), .int x1, .int x2]) ++ List.replicate (5 - (lg_sl ([.ref ua, .int (nI j), .int x1, .int x2])).length) Slot.unset).toArray = ls at hl ⊢
  have hl : lv_has ls 5 [(0, .ref ua), (1, .int (nI j)), (2, .int x1), (3, .int x2)] := hl
  have hinX0 : ∀ w ∈ wsX00, w ∈ wsX1_lengthen := by decide +kernel
  have hinX1 : ∀ w ∈ wsX10, w ∈ wsX1_lengthen := by decide +kernel
  obtain ⟨hT, hPT, hrt, hlf, hp, hRb⟩ := id hZ
  obtain ⟨hI, hPd, hWn, hG, hu, hv⟩ := id hC
  refine lv_aload_n hx hb dX1_lengthen_0 rfl (lv_at hl 0 rfl) ?_
  refine lv_iload_n hx hb dX1_lengthen_1 rfl (lv_at hl 1 rfl) ?_
  refine z_axq (wa := []) (wc := [(ua, .inr (1, [.ref ar, .int (nI cnt)])), (ar, .inl (g.2.2.1, 6, .inr (.inr (.inr (.inr rows)))))]) (wb := [(h, .inr (0, [.int (nI rt), .int (nI lf), .ref pa, .ref da, .int (nI T), .int (nI P), .long (lN R0), .long xI, .long xP, .long xW, .long xG])), (pa, .inl (g.2.1, 120, .inl u)), (da, .inl (g.2.1, 121, .inl v))]) (vx_runV (As := [.int (nI j)]) (rest := []) ⟨hx, hb, hml, hown, hts⟩ (c_leaseOf l hst g ua ar cnt rows (nI j) s.heap.size _ rfl) (cwV 1 hts gX1_lengthen_X1_leaseOf rfl rfl rfl (by decide +kernel) ⟨Nat.le_of_ble_eq_true rfl, Nat.le_of_ble_eq_true rfl⟩) (zpreXV (wa := []) (wc := [(ua, .inr (1, [.ref ar, .int (nI cnt)])), (ar, .inl (g.2.2.1, 6, .inr (.inr (.inr (.inr rows)))))]) (wb := [(h, .inr (0, [.int (nI rt), .int (nI lf), .ref pa, .ref da, .int (nI T), .int (nI P), .long (lN R0), .long xI, .long xP, .long xW, .long xG])), (pa, .inl (g.2.1, 120, .inl u)), (da, .inl (g.2.1, 121, .inl v))]) (q0 := 0) (ci := 1) (T := TX1) (N := 2) hK hP hD hS hA hX rfl rfl) rfl rfl hl.1 rfl (lv_room (Nat.le_of_ble_eq_true rfl)) dX1_lengthen_2 ⟨Nat.le_of_ble_eq_true rfl, Nat.le_of_ble_eq_true rfl⟩) hP hD hS hA (fun E ce q9 H locs hE hP hD hS hc1 hc2 hc3 => ?_) (fun r_1 w1 H locs hq hP hD hS => ?_)
  · exact absurd hrow (hE.2 j h hj rfl)
  · obtain ⟨⟨j2, h2, hj2, ej2, hr2, rfl⟩, rfl⟩ := hq
    have hP : va_P g.1 vwCl [(ua, .inr (1, [.ref ar, .int (nI cnt)])), (ar, .inl (g.2.2.1, 6, .inr (.inr (.inr (.inr rows))))), (h, .inr (0, [.int (nI rt), .int (nI lf), .ref pa, .ref da, .int (nI T), .int (nI P), .long (lN R0), .long xI, .long xP, .long xW, .long xG])), (pa, .inl (g.2.1, 120, .inl u)), (da, .inl (g.2.1, 121, .inl v))] H := hP
    have hD : va_D A [(ua, .inr (1, [.ref ar, .int (nI cnt)])), (ar, .inl (g.2.2.1, 6, .inr (.inr (.inr (.inr rows))))), (h, .inr (0, [.int (nI rt), .int (nI lf), .ref pa, .ref da, .int (nI T), .int (nI P), .long (lN R0), .long xI, .long xP, .long xW, .long xG])), (pa, .inl (g.2.1, 120, .inl u)), (da, .inl (g.2.1, 121, .inl v))] := hD
    obtain rfl : j = j2 := (nI_eq (by omega) (by omega)).mp ej2
    obtain rfl : h = h2 := Option.some.inj (hrow.symm.trans hr2)
    refine zqs ?_
    refine lv_astore (lv' := [(4, .ref h), (0, .ref ua), (1, .int (nI j)), (2, .int x1), (3, .int x2)]) hx hb dX1_lengthen_5 hl (by decide) rfl (fun ls hl => ?_)
    refine lv_iload_n hx hb dX1_lengthen_7 rfl (lv_at hl 3 rfl) ?_
    refine lv_iconst (v := nI 1) hx hb dX1_lengthen_8 (by decide) ?_
    refine lv_bipush (v := nI 36) hx hb dX1_lengthen_9 (by decide) ?_
    refine z_axv (wa := []) (wc := []) (wb := [(ua, .inr (1, [.ref ar, .int (nI cnt)])), (ar, .inl (g.2.2.1, 6, .inr (.inr (.inr (.inr rows))))), (h, .inr (0, [.int (nI rt), .int (nI lf), .ref pa, .ref da, .int (nI T), .int (nI P), .long (lN R0), .long xI, .long xP, .long xW, .long xG])), (pa, .inl (g.2.1, 120, .inl u)), (da, .inl (g.2.1, 121, .inl v))]) (vx_runS (As := [.int x1, .int (nI 1), .int (nI 36)]) (rest := []) ⟨hx, hb, hml, hown, hts⟩ (c_mustBeWithin l hst g x1 (nI 1) (nI 36) H.size _ rfl) (va_cwS 3 hts gX1_lengthen_X1_mustBeWithin rfl rfl rfl (by decide +kernel) ⟨Nat.le_of_ble_eq_true rfl, Nat.le_of_ble_eq_true rfl⟩) (zpreXS (wa := []) (wc := []) (wb := [(ua, .inr (1, [.ref ar, .int (nI cnt)])), (ar, .inl (g.2.2.1, 6, .inr (.inr (.inr (.inr rows))))), (h, .inr (0, [.int (nI rt), .int (nI lf), .ref pa, .ref da, .int (nI T), .int (nI P), .long (lN R0), .long xI, .long xP, .long xW, .long xG])), (pa, .inl (g.2.1, 120, .inl u)), (da, .inl (g.2.1, 121, .inl v))]) hK hP hD hS hA hX) rfl rfl hl.1 rfl (lv_room (Nat.le_of_ble_eq_true rfl)) dX1_lengthen_11 ⟨Nat.le_of_ble_eq_true rfl, Nat.le_of_ble_eq_true rfl⟩) hP hD hS hA (fun E ce q9 H locs hE hP hD hS hc1 hc2 hc3 => ?_) (fun w1 H locs hq hP hD hS => ?_)
    · exact z_out hout hP hK hD hS hlocks hc1 hc2 hc3 (Or.inl ⟨hE.1, fun z => hE.2 z.1⟩) (Nat.le_of_ble_eq_true rfl) (Nat.le_of_ble_eq_true rfl)
    · obtain ⟨hr1, rfl⟩ := hq
      have hP : va_P g.1 vwCl [(ua, .inr (1, [.ref ar, .int (nI cnt)])), (ar, .inl (g.2.2.1, 6, .inr (.inr (.inr (.inr rows))))), (h, .inr (0, [.int (nI rt), .int (nI lf), .ref pa, .ref da, .int (nI T), .int (nI P), .long (lN R0), .long xI, .long xP, .long xW, .long xG])), (pa, .inl (g.2.1, 120, .inl u)), (da, .inl (g.2.1, 121, .inl v))] H := hP
      have hD : va_D A [(ua, .inr (1, [.ref ar, .int (nI cnt)])), (ar, .inl (g.2.2.1, 6, .inr (.inr (.inr (.inr rows))))), (h, .inr (0, [.int (nI rt), .int (nI lf), .ref pa, .ref da, .int (nI T), .int (nI P), .long (lN R0), .long xI, .long xP, .long xW, .long xG])), (pa, .inl (g.2.1, 120, .inl u)), (da, .inl (g.2.1, 121, .inl v))] := hD
      refine lv_iload_n hx hb dX1_lengthen_14 rfl (lv_at hl 4 rfl) ?_
      refine lv_iconst (v := nI 0) hx hb dX1_lengthen_15 (by decide) ?_
      refine lv_sipush (v := nI 10000) hx hb dX1_lengthen_16 (by decide) ?_
      refine z_axv (wa := []) (wc := []) (wb := [(ua, .inr (1, [.ref ar, .int (nI cnt)])), (ar, .inl (g.2.2.1, 6, .inr (.inr (.inr (.inr rows))))), (h, .inr (0, [.int (nI rt), .int (nI lf), .ref pa, .ref da, .int (nI T), .int (nI P), .long (lN R0), .long xI, .long xP, .long xW, .long xG])), (pa, .inl (g.2.1, 120, .inl u)), (da, .inl (g.2.1, 121, .inl v))]) (vx_runS (As := [.int x2, .int (nI 0), .int (nI 10000)]) (rest := []) ⟨hx, hb, hml, hown, hts⟩ (c_mustBeWithin l hst g x2 (nI 0) (nI 10000) H.size _ rfl) (va_cwS 3 hts gX1_lengthen_X1_mustBeWithin rfl rfl rfl (by decide +kernel) ⟨Nat.le_of_ble_eq_true rfl, Nat.le_of_ble_eq_true rfl⟩) (zpreXS (wa := []) (wc := []) (wb := [(ua, .inr (1, [.ref ar, .int (nI cnt)])), (ar, .inl (g.2.2.1, 6, .inr (.inr (.inr (.inr rows))))), (h, .inr (0, [.int (nI rt), .int (nI lf), .ref pa, .ref da, .int (nI T), .int (nI P), .long (lN R0), .long xI, .long xP, .long xW, .long xG])), (pa, .inl (g.2.1, 120, .inl u)), (da, .inl (g.2.1, 121, .inl v))]) hK hP hD hS hA hX) rfl rfl hl.1 rfl (lv_room (Nat.le_of_ble_eq_true rfl)) dX1_lengthen_19 ⟨Nat.le_of_ble_eq_true rfl, Nat.le_of_ble_eq_true rfl⟩) hP hD hS hA (fun E ce q9 H locs hE hP hD hS hc1 hc2 hc3 => ?_) (fun w1 H locs hq hP hD hS => ?_)
      · exact z_out hout hP hK hD hS hlocks hc1 hc2 hc3 (Or.inl ⟨hE.1, fun z => hE.2 z.2⟩) (Nat.le_of_ble_eq_true rfl) (Nat.le_of_ble_eq_true rfl)
      · obtain ⟨hr2, rfl⟩ := hq
        have hP : va_P g.1 vwCl [(ua, .inr (1, [.ref ar, .int (nI cnt)])), (ar, .inl (g.2.2.1, 6, .inr (.inr (.inr (.inr rows))))), (h, .inr (0, [.int (nI rt), .int (nI lf), .ref pa, .ref da, .int (nI T), .int (nI P), .long (lN R0), .long xI, .long xP, .long xW, .long xG])), (pa, .inl (g.2.1, 120, .inl u)), (da, .inl (g.2.1, 121, .inl v))] H := hP
        have hD : va_D A [(ua, .inr (1, [.ref ar, .int (nI cnt)])), (ar, .inl (g.2.2.1, 6, .inr (.inr (.inr (.inr rows))))), (h, .inr (0, [.int (nI rt), .int (nI lf), .ref pa, .ref da, .int (nI T), .int (nI P), .long (lN R0), .long xI, .long xP, .long xW, .long xG])), (pa, .inl (g.2.1, 120, .inl u)), (da, .inl (g.2.1, 121, .inl v))] := hD
        refine lv_aload hx hb dX1_lengthen_22 (lv_at hl 0 rfl) ?_
        refine z_axv (wa := [(ua, .inr (1, [.ref ar, .int (nI cnt)])), (ar, .inl (g.2.2.1, 6, .inr (.inr (.inr (.inr rows)))))]) (wc := [(h, .inr (0, [.int (nI rt), .int (nI lf), .ref pa, .ref da, .int (nI T), .int (nI P), .long (lN R0), .long xI, .long xP, .long xW, .long xG])), (pa, .inl (g.2.1, 120, .inl u)), (da, .inl (g.2.1, 121, .inl v))]) (wb := []) (vx_runS (As := [.ref h]) (rest := []) ⟨hx, hb, hml, hown, hts⟩ (c_mustGoOn l hst g h pa da rt lf T P (lN R0) xI xP xW xG u v hPT hT H.size _ rfl) (va_cwS 1 hts gX1_lengthen_X1_mustGoOn rfl rfl rfl (by decide +kernel) ⟨Nat.le_of_ble_eq_true rfl, Nat.le_of_ble_eq_true rfl⟩) (zpreXS (wa := [(ua, .inr (1, [.ref ar, .int (nI cnt)])), (ar, .inl (g.2.2.1, 6, .inr (.inr (.inr (.inr rows)))))]) (wc := [(h, .inr (0, [.int (nI rt), .int (nI lf), .ref pa, .ref da, .int (nI T), .int (nI P), .long (lN R0), .long xI, .long xP, .long xW, .long xG])), (pa, .inl (g.2.1, 120, .inl u)), (da, .inl (g.2.1, 121, .inl v))]) (wb := []) hK hP hD hS hA hX) rfl rfl hl.1 rfl (lv_room (Nat.le_of_ble_eq_true rfl)) dX1_lengthen_24 ⟨Nat.le_of_ble_eq_true rfl, Nat.le_of_ble_eq_true rfl⟩) hP hD hS hA (fun E ce q9 H locs hE hP hD hS hc1 hc2 hc3 => ?_) (fun w1 H locs hq hP hD hS => ?_)
        · exact z_out hout hP hK hD hS hlocks hc1 hc2 hc3 (Or.inr ⟨hE.1, ⟨hr1, hr2⟩, fun z => absurd z.1 (by have := hE.2; omega)⟩) (Nat.le_of_ble_eq_true rfl) (Nat.le_of_ble_eq_true rfl)
        · obtain ⟨hlt, rfl⟩ := hq
          have hP : va_P g.1 vwCl [(ua, .inr (1, [.ref ar, .int (nI cnt)])), (ar, .inl (g.2.2.1, 6, .inr (.inr (.inr (.inr rows))))), (h, .inr (0, [.int (nI rt), .int (nI lf), .ref pa, .ref da, .int (nI T), .int (nI P), .long (lN R0), .long xI, .long xP, .long xW, .long xG])), (pa, .inl (g.2.1, 120, .inl u)), (da, .inl (g.2.1, 121, .inl v))] H := hP
          have hD : va_D A [(ua, .inr (1, [.ref ar, .int (nI cnt)])), (ar, .inl (g.2.2.1, 6, .inr (.inr (.inr (.inr rows))))), (h, .inr (0, [.int (nI rt), .int (nI lf), .ref pa, .ref da, .int (nI T), .int (nI P), .long (lN R0), .long xI, .long xP, .long xW, .long xG])), (pa, .inl (g.2.1, 120, .inl u)), (da, .inl (g.2.1, 121, .inl v))] := hD
          obtain ⟨e1, h11, h12⟩ := zN_in (by decide) (by decide) hr1
          obtain ⟨e2, h21, h22⟩ := zN_in (by decide) (by decide) hr2
          refine lv_aload hx hb dX1_lengthen_27 (lv_at hl 0 rfl) ?_
          refine lv_iload_n hx hb dX1_lengthen_29 rfl (lv_at hl 3 rfl) ?_
          refine zi (y := nI (zN x1)) (e1) ?_
          refine z_ai (wa := [(ua, .inr (1, [.ref ar, .int (nI cnt)])), (ar, .inl (g.2.2.1, 6, .inr (.inr (.inr (.inr rows)))))]) (wc := [(h, .inr (0, [.int (nI rt), .int (nI lf), .ref pa, .ref da, .int (nI T), .int (nI P), .long (lN R0), .long xI, .long xP, .long xW, .long xG])), (pa, .inl (g.2.1, 120, .inl u)), (da, .inl (g.2.1, 121, .inl v))]) (wb := []) (va_runV (As := [.int (nI (zN x1))]) (rest := []) ⟨hx, hb, hml, hown, hts⟩ (c_hasRoomFor l g h pa da rt lf T P (lN R0) xI xP xW xG u v (zN x1) hT h12 H.size _ rfl) (cwV 1 hts gX1_lengthen_X0_hasRoomFor rfl rfl rfl (by decide +kernel) ⟨Nat.le_of_ble_eq_true rfl, Nat.le_of_ble_eq_true rfl⟩) (zpreV (wa := [(ua, .inr (1, [.ref ar, .int (nI cnt)])), (ar, .inl (g.2.2.1, 6, .inr (.inr (.inr (.inr rows)))))]) (wc := [(h, .inr (0, [.int (nI rt), .int (nI lf), .ref pa, .ref da, .int (nI T), .int (nI P), .long (lN R0), .long xI, .long xP, .long xW, .long xG])), (pa, .inl (g.2.1, 120, .inl u)), (da, .inl (g.2.1, 121, .inl v))]) (wb := []) (q0 := 0) (ci := 0) (T := TX0) (N := 11) hK hP hD rfl rfl) rfl rfl hl.1 rfl (lv_room (Nat.le_of_ble_eq_true rfl)) dX1_lengthen_30 ⟨Nat.le_of_ble_eq_true rfl, Nat.le_of_ble_eq_true rfl⟩) hP hD hS hA (fun rb w1 H locs hq hP hD hS => ?_)
          obtain ⟨hcase, rfl⟩ := hq
          have hP : va_P g.1 vwCl [(ua, .inr (1, [.ref ar, .int (nI cnt)])), (ar, .inl (g.2.2.1, 6, .inr (.inr (.inr (.inr rows))))), (h, .inr (0, [.int (nI rt), .int (nI lf), .ref pa, .ref da, .int (nI T), .int (nI P), .long (lN R0), .long xI, .long xP, .long xW, .long xG])), (pa, .inl (g.2.1, 120, .inl u)), (da, .inl (g.2.1, 121, .inl v))] H := hP
          have hD : va_D A [(ua, .inr (1, [.ref ar, .int (nI cnt)])), (ar, .inl (g.2.2.1, 6, .inr (.inr (.inr (.inr rows))))), (h, .inr (0, [.int (nI rt), .int (nI lf), .ref pa, .ref da, .int (nI T), .int (nI P), .long (lN R0), .long xI, .long xP, .long xW, .long xG])), (pa, .inl (g.2.1, 120, .inl u)), (da, .inl (g.2.1, 121, .inl v))] := hD
          rcases hcase with ⟨hok, rfl⟩ | ⟨hno, rfl⟩
          · refine z_if_ne (tgt := 46) hx hb dX1_lengthen_33 (by decide) (by omega) (fun hc => ?_) (fun hc => ?_)
            · refine lv_aload hx hb dX1_lengthen_46 (lv_at hl 0 rfl) ?_
              refine lv_iload_n hx hb dX1_lengthen_48 rfl (lv_at hl 3 rfl) ?_
              refine zi (y := nI (zN x1)) (e1) ?_
              refine lv_iload_n hx hb dX1_lengthen_49 rfl (lv_at hl 4 rfl) ?_
              refine zi (y := nI (zN x2)) (e2) ?_
              refine z_av (wa := [(ua, .inr (1, [.ref ar, .int (nI cnt)])), (ar, .inl (g.2.2.1, 6, .inr (.inr (.inr (.inr rows)))))]) (wc := [(h, .inr (0, [.int (nI rt), .int (nI lf), .ref pa, .ref da, .int (nI T), .int (nI P), .long (lN R0), .long xI, .long xP, .long xW, .long xG])), (pa, .inl (g.2.1, 120, .inl u)), (da, .inl (g.2.1, 121, .inl v))]) (wb := []) (va_runV (As := [.int (nI (zN x1)), .int (nI (zN x2))]) (rest := []) ⟨hx, hb, hml, hown, hts⟩ (c_putBehind l g h pa da rt lf T P R0 py I Pd Wn G xI xP xW xG u v (zN x1) (zN x2) hZ hC hok h22 H.size _ rfl) (cwV 2 hts gX1_lengthen_X0_putBehind rfl rfl rfl (by decide +kernel) ⟨Nat.le_of_ble_eq_true rfl, Nat.le_of_ble_eq_true rfl⟩) (zpreV (wa := [(ua, .inr (1, [.ref ar, .int (nI cnt)])), (ar, .inl (g.2.2.1, 6, .inr (.inr (.inr (.inr rows)))))]) (wc := [(h, .inr (0, [.int (nI rt), .int (nI lf), .ref pa, .ref da, .int (nI T), .int (nI P), .long (lN R0), .long xI, .long xP, .long xW, .long xG])), (pa, .inl (g.2.1, 120, .inl u)), (da, .inl (g.2.1, 121, .inl v))]) (wb := []) (q0 := 0) (ci := 0) (T := TX0) (N := 11) hK hP hD rfl rfl) rfl rfl hl.1 rfl (lv_room (Nat.le_of_ble_eq_true rfl)) dX1_lengthen_50 ⟨Nat.le_of_ble_eq_true rfl, Nat.le_of_ble_eq_true rfl⟩) hP hD hS hA (fun w1 H locs hq hP hD hS => ?_)
              obtain ⟨q2, rfl, hC2⟩ := hq
              have hP : va_P g.1 vwCl ([(ua, .inr (1, [.ref ar, .int (nI cnt)])), (ar, .inl (g.2.2.1, 6, .inr (.inr (.inr (.inr rows)))))] ++ (zLW g (h, pa, da) rt lf (zFol rt (T + zN x1) (zPut T (zN x1) (zN x2) py) (T, P, py, R0, I, Pd, Wn, G)) q2)) H := hP
              have hD : va_D A ([(ua, .inr (1, [.ref ar, .int (nI cnt)])), (ar, .inl (g.2.2.1, 6, .inr (.inr (.inr (.inr rows)))))] ++ (zLW g (h, pa, da) rt lf (zFol rt (T + zN x1) (zPut T (zN x1) (zN x2) py) (T, P, py, R0, I, Pd, Wn, G)) q2)) := hD
              generalize hz2 : zFol rt (T + zN x1) (zPut T (zN x1) (zN x2) py) (T, P, py, R0, I, Pd, Wn, G) = z2 at hP hD hC2
              obtain ⟨T2, P2, py2, R2, I2, Pd2, Wn2, G2⟩ := z2
              obtain ⟨xI2, xP2, xW2, xG2, u2, v2⟩ := q2
              have hP : va_P g.1 vwCl [(ua, .inr (1, [.ref ar, .int (nI cnt)])), (ar, .inl (g.2.2.1, 6, .inr (.inr (.inr (.inr rows))))), (h, .inr (0, [.int (nI rt), .int (nI lf), .ref pa, .ref da, .int (nI T2), .int (nI P2), .long (lN R2), .long xI2, .long xP2, .long xW2, .long xG2])), (pa, .inl (g.2.1, 120, .inl u2)), (da, .inl (g.2.1, 121, .inl v2))] H := hP
              have hD : va_D A [(ua, .inr (1, [.ref ar, .int (nI cnt)])), (ar, .inl (g.2.2.1, 6, .inr (.inr (.inr (.inr rows))))), (h, .inr (0, [.int (nI rt), .int (nI lf), .ref pa, .ref da, .int (nI T2), .int (nI P2), .long (lN R2), .long xI2, .long xP2, .long xW2, .long xG2])), (pa, .inl (g.2.1, 120, .inl u2)), (da, .inl (g.2.1, 121, .inl v2))] := hD
              have eT : T2 = T + zN x1 := by have z := zFol_T (r := rt) (T' := T + zN x1) (p' := zPut T (zN x1) (zN x2) py) (T := T) (P := P) (R := R0) (p := py) (I := I) (Pd := Pd) (W := Wn) (G := G); rw [hz2] at z; exact z
              have eP : P2 = P := by have z := zFol_P (r := rt) (T' := T + zN x1) (p' := zPut T (zN x1) (zN x2) py) (T := T) (P := P) (R := R0) (p := py) (I := I) (Pd := Pd) (W := Wn) (G := G); rw [hz2] at z; exact z
              have ep : py2 = zPut T (zN x1) (zN x2) py := by have z := zFol_p (r := rt) (T' := T + zN x1) (p' := zPut T (zN x1) (zN x2) py) (T := T) (P := P) (R := R0) (p := py) (I := I) (Pd := Pd) (W := Wn) (G := G); rw [hz2] at z; exact z
              refine lv_aload hx hb dX1_lengthen_53 (lv_at hl 0 rfl) ?_
              refine z_ai (wa := [(ua, .inr (1, [.ref ar, .int (nI cnt)])), (ar, .inl (g.2.2.1, 6, .inr (.inr (.inr (.inr rows)))))]) (wc := [(h, .inr (0, [.int (nI rt), .int (nI lf), .ref pa, .ref da, .int (nI T2), .int (nI P2), .long (lN R2), .long xI2, .long xP2, .long xW2, .long xG2])), (pa, .inl (g.2.1, 120, .inl u2)), (da, .inl (g.2.1, 121, .inl v2))]) (wb := []) (va_runV (As := []) (rest := []) ⟨hx, hb, hml, hown, hts⟩ (c_debtNow l g h pa da rt lf T2 P2 (lN R2) xI2 xP2 xW2 xG2 u2 v2 (by omega) H.size _ rfl) (cwV 0 hts gX1_lengthen_X0_debtNow rfl rfl rfl (by decide +kernel) ⟨Nat.le_of_ble_eq_true rfl, Nat.le_of_ble_eq_true rfl⟩) (zpreV (wa := [(ua, .inr (1, [.ref ar, .int (nI cnt)])), (ar, .inl (g.2.2.1, 6, .inr (.inr (.inr (.inr rows)))))]) (wc := [(h, .inr (0, [.int (nI rt), .int (nI lf), .ref pa, .ref da, .int (nI T2), .int (nI P2), .long (lN R2), .long xI2, .long xP2, .long xW2, .long xG2])), (pa, .inl (g.2.1, 120, .inl u2)), (da, .inl (g.2.1, 121, .inl v2))]) (wb := []) (q0 := 0) (ci := 0) (T := TX0) (N := 11) hK hP hD rfl rfl) rfl rfl hl.1 rfl (lv_room (Nat.le_of_ble_eq_true rfl)) dX1_lengthen_55 ⟨Nat.le_of_ble_eq_true rfl, Nat.le_of_ble_eq_true rfl⟩) hP hD hS hA (fun r_6 w1 H locs hq hP hD hS => ?_)
              obtain ⟨rfl, rfl⟩ := hq
              have hP : va_P g.1 vwCl [(ua, .inr (1, [.ref ar, .int (nI cnt)])), (ar, .inl (g.2.2.1, 6, .inr (.inr (.inr (.inr rows))))), (h, .inr (0, [.int (nI rt), .int (nI lf), .ref pa, .ref da, .int (nI T2), .int (nI P2), .long (lN R2), .long xI2, .long xP2, .long xW2, .long xG2])), (pa, .inl (g.2.1, 120, .inl u2)), (da, .inl (g.2.1, 121, .inl v2))] H := hP
              have hD : va_D A [(ua, .inr (1, [.ref ar, .int (nI cnt)])), (ar, .inl (g.2.2.1, 6, .inr (.inr (.inr (.inr rows))))), (h, .inr (0, [.int (nI rt), .int (nI lf), .ref pa, .ref da, .int (nI T2), .int (nI P2), .long (lN R2), .long xI2, .long xP2, .long xW2, .long xG2])), (pa, .inl (g.2.1, 120, .inl u2)), (da, .inl (g.2.1, 121, .inl v2))] := hD
              refine zi (y := nI (zWr rt py2 T2 (T2 - P2))) (hC2.2.2.2.2.2 P2 (Nat.le_refl P2) (by omega)) ?_
              refine W.widen (k := 5) (n := 30) (by omega) (by omega) ?_
              exact z_xiret hx hb hr hP hK hD hS dX1_lengthen_58 hlocks (⟨⟨hr1, hr2⟩, ⟨hlt, hok⟩, by rw [eT, eP, ep], (xI2, xP2, xW2, xG2, u2, v2), rfl, hC2⟩)
            · exact absurd hc (by decide)
          · refine z_if_ne (tgt := 46) hx hb dX1_lengthen_33 (by decide) (by omega) (fun hc => ?_) (fun hc => ?_)
            · exact absurd rfl hc
            · exact z_throw (text := "there would be too many months in all") (Ts := wsX1_lengthen) hx hb hst hown (by decide +kernel) hts (by decide +kernel) (by decide +kernel) (by decide +kernel) zbw_ISE zot_ISE_23 (by decide +kernel) hX hA hP hK hD hS (hl.1.trans hml.symm) dX1_lengthen_36 dX1_lengthen_39 dX1_lengthen_40 dX1_lengthen_42 dX1_lengthen_45 hout (Nat.le_of_ble_eq_true rfl) (Nat.le_of_ble_eq_true rfl) (Nat.le_of_ble_eq_true rfl) (Nat.le_of_ble_eq_true rfl) hlocks (Or.inr ⟨rfl, ⟨hr1, hr2⟩, fun z => absurd z.2 (by omega)⟩) (Nat.le_of_ble_eq_true rfl) (Nat.le_of_ble_eq_true rfl)

set_option maxHeartbeats 4000000 in
set_option maxRecDepth 100000 in
theorem p_shorten (l : Launch) (hst : l.stackTraces = false) (g : zG) (ua ar cnt : Nat) (rows : Nat → Option Nat) (j : Nat) (h pa da rt lf T P R0 : Nat) (py : Nat → Nat) (I Pd Wn G : Int32) (xI xP xW xG : Int64) (u v : Nat → Int32) (x1 : Int32) (hj : j < 6) (hrow : rows j = some h) (hZ : zInv rt lf (T, P, py, R0, I, Pd, Wn, G)) (hC : zCR rt (T, P, py, R0, I, Pd, Wn, G) (xI, xP, xW, xG, u, v)) : zXi l yX1_shorten wsX1_shorten ({ frames := 7, cells := 3, slots := 18, locals := 125 } : Room) [.ref ua, .int (nI j), .int x1] g [(ua, .inr (1, [.ref ar, .int (nI cnt)])), (ar, .inl (g.2.2.1, 6, .inr (.inr (.inr (.inr rows))))), (h, .inr (0, [.int (nI rt), .int (nI lf), .ref pa, .ref da, .int (nI T), .int (nI P), .long (lN R0), .long xI, .long xP, .long xW, .long xG])), (pa, .inl (g.2.1, 120, .inl u)), (da, .inl (g.2.1, 121, .inl v))] (fun q w => (nI 1 ≤ x1 ∧ x1 ≤ nI 60) ∧ (zN x1 < T - P) ∧ q = zGn rt (T - zN x1) py (R0 * (T - zN x1 - P) / (T - P)) (T, P, py, R0, I, Pd, Wn, G) ∧ ∃ q', w = [(ua, .inr (1, [.ref ar, .int (nI cnt)])), (ar, .inl (g.2.2.1, 6, .inr (.inr (.inr (.inr rows)))))] ++ zLW g (h, pa, da) rt lf (zGiv rt (T - zN x1) py (R0 * (T - zN x1 - P) / (T - P)) (T, P, py, R0, I, Pd, Wn, G)) q' ∧ zCR rt (zGiv rt (T - zN x1) py (R0 * (T - zN x1 - P) / (T - P)) (T, P, py, R0, I, Pd, Wn, G)) q') (fun E => (E = "java/lang/IllegalArgumentException" ∧ ¬ (nI 1 ≤ x1 ∧ x1 ≤ nI 60)) ∨ (E = "java/lang/IllegalStateException" ∧ (nI 1 ≤ x1 ∧ x1 ≤ nI 60) ∧ ¬ (zN x1 < T - P))) 3 18 := by
  intro sz A hAe
  refine vx_ofW (cc := cX1_shorten) (maxL := 4) (ret := some .int) (by decide) rfl ?_
  intro p e s m args below meth c s₁ B hml hout hv
  obtain ⟨rfl, ⟨hsz, hP, hK, hD0⟩, hX⟩ := hv
  have hx := B.exec
  have hb := B.bytes
  have hr := B.returns
  have hts := atoms_spec (ws := wsX1_shorten) B.pre
  have hown : s.vm.findClass RX1 = some m.cls := findClass_of_methodNamed B.named
  have hlocks := B.notSynchronized
  obtain ⟨hD, hA, hS⟩ := z_in hsz hAe hD0
  have hl := lv_entry ([.ref ua, .int (nI j), .int x1]) (n := 4) (Nat.le_of_ble_eq_true rfl)
  rw [lg_entry_eq]
  generalize (lg_sl ([.ref ua, .int (nI j), .int x1]) ++ List.replicate (4 - (lg_sl ([.ref ua, .int (nI j), .int x1])).length) Slot.unset).toArray = ls at hl ⊢
  have hl : lv_has ls 4 [(0, .ref ua), (1, .int (nI j)), (2, .int x1)] := hl
  have hinX0 : ∀ w ∈ wsX00, w ∈ wsX1_shorten := by decide +kernel
  have hinX1 : ∀ w ∈ wsX10, w ∈ wsX1_shorten := by decide +kernel
  obtain ⟨hT, hPT, hrt, hlf, hp, hRb⟩ := id hZ
  obtain ⟨hI, hPd, hWn, hG, hu, hv⟩ := id hC
  refine lv_aload_n hx hb dX1_shorten_0 rfl (lv_at hl 0 rfl) ?_
  refine lv_iload_n hx hb dX1_shorten_1 rfl (lv_at hl 1 rfl) ?_
  refine z_axq (wa := []) (wc := [(ua, .inr (1, [.ref ar, .int (nI cnt)])), (ar, .inl (g.2.2.1, 6, .inr (.inr (.inr (.inr rows)))))]) (wb := [(h, .inr (0, [.int (nI rt), .int (nI lf), .ref pa, .ref da, .int (nI T), .int (nI P), .long (lN R0), .long xI, .long xP, .long xW, .long xG])), (pa, .inl (g.2.1, 120, .inl u)), (da, .inl (g.2.1, 121, .inl v))]) (vx_runV (As := [.int (nI j)]) (rest := []) ⟨hx, hb, hml, hown, hts⟩ (c_leaseOf l hst g ua ar cnt rows (nI j) s.heap.size _ rfl) (cwV 1 hts gX1_shorten_X1_leaseOf rfl rfl rfl (by decide +kernel) ⟨Nat.le_of_ble_eq_true rfl, Nat.le_of_ble_eq_true rfl⟩) (zpreXV (wa := []) (wc := [(ua, .inr (1, [.ref ar, .int (nI cnt)])), (ar, .inl (g.2.2.1, 6, .inr (.inr (.inr (.inr rows)))))]) (wb := [(h, .inr (0, [.int (nI rt), .int (nI lf), .ref pa, .ref da, .int (nI T), .int (nI P), .long (lN R0), .long xI, .long xP, .long xW, .long xG])), (pa, .inl (g.2.1, 120, .inl u)), (da, .inl (g.2.1, 121, .inl v))]) (q0 := 0) (ci := 1) (T := TX1) (N := 2) hK hP hD hS hA hX rfl rfl) rfl rfl hl.1 rfl (lv_room (Nat.le_of_ble_eq_true rfl)) dX1_shorten_2 ⟨Nat.le_of_ble_eq_true rfl, Nat.le_of_ble_eq_true rfl⟩) hP hD hS hA (fun E ce q9 H locs hE hP hD hS hc1 hc2 hc3 => ?_) (fun r_1 w1 H locs hq hP hD hS => ?_)
  · exact absurd hrow (hE.2 j h hj rfl)
  · obtain ⟨⟨j2, h2, hj2, ej2, hr2, rfl⟩, rfl⟩ := hq
    have hP : va_P g.1 vwCl [(ua, .inr (1, [.ref ar, .int (nI cnt)])), (ar, .inl (g.2.2.1, 6, .inr (.inr (.inr (.inr rows))))), (h, .inr (0, [.int (nI rt), .int (nI lf), .ref pa, .ref da, .int (nI T), .int (nI P), .long (lN R0), .long xI, .long xP, .long xW, .long xG])), (pa, .inl (g.2.1, 120, .inl u)), (da, .inl (g.2.1, 121, .inl v))] H := hP
    have hD : va_D A [(ua, .inr (1, [.ref ar, .int (nI cnt)])), (ar, .inl (g.2.2.1, 6, .inr (.inr (.inr (.inr rows))))), (h, .inr (0, [.int (nI rt), .int (nI lf), .ref pa, .ref da, .int (nI T), .int (nI P), .long (lN R0), .long xI, .long xP, .long xW, .long xG])), (pa, .inl (g.2.1, 120, .inl u)), (da, .inl (g.2.1, 121, .inl v))] := hD
    obtain rfl : j = j2 := (nI_eq (by omega) (by omega)).mp ej2
    obtain rfl : h = h2 := Option.some.inj (hrow.symm.trans hr2)
    refine zqs ?_
    refine lv_astore_n (lv' := [(3, .ref h), (0, .ref ua), (1, .int (nI j)), (2, .int x1)]) hx hb dX1_shorten_5 rfl hl (by decide) rfl (fun ls hl => ?_)
    refine lv_iload_n hx hb dX1_shorten_6 rfl (lv_at hl 3 rfl) ?_
    refine lv_iconst (v := nI 1) hx hb dX1_shorten_7 (by decide) ?_
    refine lv_bipush (v := nI 60) hx hb dX1_shorten_8 (by decide) ?_
    refine z_axv (wa := []) (wc := []) (wb := [(ua, .inr (1, [.ref ar, .int (nI cnt)])), (ar, .inl (g.2.2.1, 6, .inr (.inr (.inr (.inr rows))))), (h, .inr (0, [.int (nI rt), .int (nI lf), .ref pa, .ref da, .int (nI T), .int (nI P), .long (lN R0), .long xI, .long xP, .long xW, .long xG])), (pa, .inl (g.2.1, 120, .inl u)), (da, .inl (g.2.1, 121, .inl v))]) (vx_runS (As := [.int x1, .int (nI 1), .int (nI 60)]) (rest := []) ⟨hx, hb, hml, hown, hts⟩ (c_mustBeWithin l hst g x1 (nI 1) (nI 60) H.size _ rfl) (va_cwS 3 hts gX1_shorten_X1_mustBeWithin rfl rfl rfl (by decide +kernel) ⟨Nat.le_of_ble_eq_true rfl, Nat.le_of_ble_eq_true rfl⟩) (zpreXS (wa := []) (wc := []) (wb := [(ua, .inr (1, [.ref ar, .int (nI cnt)])), (ar, .inl (g.2.2.1, 6, .inr (.inr (.inr (.inr rows))))), (h, .inr (0, [.int (nI rt), .int (nI lf), .ref pa, .ref da, .int (nI T), .int (nI P), .long (lN R0), .long xI, .long xP, .long xW, .long xG])), (pa, .inl (g.2.1, 120, .inl u)), (da, .inl (g.2.1, 121, .inl v))]) hK hP hD hS hA hX) rfl rfl hl.1 rfl (lv_room (Nat.le_of_ble_eq_true rfl)) dX1_shorten_10 ⟨Nat.le_of_ble_eq_true rfl, Nat.le_of_ble_eq_true rfl⟩) hP hD hS hA (fun E ce q9 H locs hE hP hD hS hc1 hc2 hc3 => ?_) (fun w1 H locs hq hP hD hS => ?_)
    · exact z_out hout hP hK hD hS hlocks hc1 hc2 hc3 (Or.inl hE) (Nat.le_of_ble_eq_true rfl) (Nat.le_of_ble_eq_true rfl)
    · obtain ⟨hrng, rfl⟩ := hq
      have hP : va_P g.1 vwCl [(ua, .inr (1, [.ref ar, .int (nI cnt)])), (ar, .inl (g.2.2.1, 6, .inr (.inr (.inr (.inr rows))))), (h, .inr (0, [.int (nI rt), .int (nI lf), .ref pa, .ref da, .int (nI T), .int (nI P), .long (lN R0), .long xI, .long xP, .long xW, .long xG])), (pa, .inl (g.2.1, 120, .inl u)), (da, .inl (g.2.1, 121, .inl v))] H := hP
      have hD : va_D A [(ua, .inr (1, [.ref ar, .int (nI cnt)])), (ar, .inl (g.2.2.1, 6, .inr (.inr (.inr (.inr rows))))), (h, .inr (0, [.int (nI rt), .int (nI lf), .ref pa, .ref da, .int (nI T), .int (nI P), .long (lN R0), .long xI, .long xP, .long xW, .long xG])), (pa, .inl (g.2.1, 120, .inl u)), (da, .inl (g.2.1, 121, .inl v))] := hD
      obtain ⟨e1, h11, h12⟩ := zN_in (by decide) (by decide) hrng
      refine lv_aload_n hx hb dX1_shorten_13 rfl (lv_at hl 0 rfl) ?_
      refine z_ai (wa := [(ua, .inr (1, [.ref ar, .int (nI cnt)])), (ar, .inl (g.2.2.1, 6, .inr (.inr (.inr (.inr rows)))))]) (wc := [(h, .inr (0, [.int (nI rt), .int (nI lf), .ref pa, .ref da, .int (nI T), .int (nI P), .long (lN R0), .long xI, .long xP, .long xW, .long xG])), (pa, .inl (g.2.1, 120, .inl u)), (da, .inl (g.2.1, 121, .inl v))]) (wb := []) (va_runV (As := []) (rest := []) ⟨hx, hb, hml, hown, hts⟩ (c_monthsLeft l g h pa da rt lf T P (lN R0) xI xP xW xG u v hPT H.size _ rfl) (cwV 0 hts gX1_shorten_X0_monthsLeft rfl rfl rfl (by decide +kernel) ⟨Nat.le_of_ble_eq_true rfl, Nat.le_of_ble_eq_true rfl⟩) (zpreV (wa := [(ua, .inr (1, [.ref ar, .int (nI cnt)])), (ar, .inl (g.2.2.1, 6, .inr (.inr (.inr (.inr rows)))))]) (wc := [(h, .inr (0, [.int (nI rt), .int (nI lf), .ref pa, .ref da, .int (nI T), .int (nI P), .long (lN R0), .long xI, .long xP, .long xW, .long xG])), (pa, .inl (g.2.1, 120, .inl u)), (da, .inl (g.2.1, 121, .inl v))]) (wb := []) (q0 := 0) (ci := 0) (T := TX0) (N := 11) hK hP hD rfl rfl) rfl rfl hl.1 rfl (lv_room (Nat.le_of_ble_eq_true rfl)) dX1_shorten_14 ⟨Nat.le_of_ble_eq_true rfl, Nat.le_of_ble_eq_true rfl⟩) hP hD hS hA (fun r_3 w1 H locs hq hP hD hS => ?_)
      obtain ⟨rfl, rfl⟩ := hq
      have hP : va_P g.1 vwCl [(ua, .inr (1, [.ref ar, .int (nI cnt)])), (ar, .inl (g.2.2.1, 6, .inr (.inr (.inr (.inr rows))))), (h, .inr (0, [.int (nI rt), .int (nI lf), .ref pa, .ref da, .int (nI T), .int (nI P), .long (lN R0), .long xI, .long xP, .long xW, .long xG])), (pa, .inl (g.2.1, 120, .inl u)), (da, .inl (g.2.1, 121, .inl v))] H := hP
      have hD : va_D A [(ua, .inr (1, [.ref ar, .int (nI cnt)])), (ar, .inl (g.2.2.1, 6, .inr (.inr (.inr (.inr rows))))), (h, .inr (0, [.int (nI rt), .int (nI lf), .ref pa, .ref da, .int (nI T), .int (nI P), .long (lN R0), .long xI, .long xP, .long xW, .long xG])), (pa, .inl (g.2.1, 120, .inl u)), (da, .inl (g.2.1, 121, .inl v))] := hD
      refine lv_iload_n hx hb dX1_shorten_17 rfl (lv_at hl 3 rfl) ?_
      refine zi (y := nI (zN x1)) (e1) ?_
      refine z_icmp_gt (tgt := 31) hx hb dX1_shorten_18 (by decide) (by omega) (by omega) (fun hc => ?_) (fun hc => ?_)
      · refine lv_aload_n hx hb dX1_shorten_31 rfl (lv_at hl 0 rfl) ?_
        refine lv_iload_n hx hb dX1_shorten_32 rfl (lv_at hl 3 rfl) ?_
        refine zi (y := nI (zN x1)) (e1) ?_
        refine z_ai (wa := [(ua, .inr (1, [.ref ar, .int (nI cnt)])), (ar, .inl (g.2.2.1, 6, .inr (.inr (.inr (.inr rows)))))]) (wc := [(h, .inr (0, [.int (nI rt), .int (nI lf), .ref pa, .ref da, .int (nI T), .int (nI P), .long (lN R0), .long xI, .long xP, .long xW, .long xG])), (pa, .inl (g.2.1, 120, .inl u)), (da, .inl (g.2.1, 121, .inl v))]) (wb := []) (va_runV (As := [.int (nI (zN x1))]) (rest := []) ⟨hx, hb, hml, hown, hts⟩ (c_takeOffTheEnd l g h pa da rt lf T P R0 py I Pd Wn G xI xP xW xG u v (zN x1) hZ hC hc H.size _ rfl) (cwV 1 hts gX1_shorten_X0_takeOffTheEnd rfl rfl rfl (by decide +kernel) ⟨Nat.le_of_ble_eq_true rfl, Nat.le_of_ble_eq_true rfl⟩) (zpreV (wa := [(ua, .inr (1, [.ref ar, .int (nI cnt)])), (ar, .inl (g.2.2.1, 6, .inr (.inr (.inr (.inr rows)))))]) (wc := [(h, .inr (0, [.int (nI rt), .int (nI lf), .ref pa, .ref da, .int (nI T), .int (nI P), .long (lN R0), .long xI, .long xP, .long xW, .long xG])), (pa, .inl (g.2.1, 120, .inl u)), (da, .inl (g.2.1, 121, .inl v))]) (wb := []) (q0 := 0) (ci := 0) (T := TX0) (N := 11) hK hP hD rfl rfl) rfl rfl hl.1 rfl (lv_room (Nat.le_of_ble_eq_true rfl)) dX1_shorten_33 ⟨Nat.le_of_ble_eq_true rfl, Nat.le_of_ble_eq_true rfl⟩) hP hD hS hA (fun r_4 w1 H locs hq hP hD hS => ?_)
        obtain ⟨rfl, q2, rfl, hC2⟩ := hq
        have hP : va_P g.1 vwCl ([(ua, .inr (1, [.ref ar, .int (nI cnt)])), (ar, .inl (g.2.2.1, 6, .inr (.inr (.inr (.inr rows)))))] ++ (zLW g (h, pa, da) rt lf (zGiv rt (T - zN x1) py (R0 * (T - zN x1 - P) / (T - P)) (T, P, py, R0, I, Pd, Wn, G)) q2)) H := hP
        have hD : va_D A ([(ua, .inr (1, [.ref ar, .int (nI cnt)])), (ar, .inl (g.2.2.1, 6, .inr (.inr (.inr (.inr rows)))))] ++ (zLW g (h, pa, da) rt lf (zGiv rt (T - zN x1) py (R0 * (T - zN x1 - P) / (T - P)) (T, P, py, R0, I, Pd, Wn, G)) q2)) := hD
        refine W.widen (k := 3) (n := 18) (by omega) (by omega) ?_
        exact z_xiret hx hb hr hP hK hD hS dX1_shorten_36 hlocks (⟨hrng, hc, rfl, q2, rfl, hC2⟩)
      · exact z_throw (text := "no month would be left to come") (Ts := wsX1_shorten) hx hb hst hown (by decide +kernel) hts (by decide +kernel) (by decide +kernel) (by decide +kernel) zbw_ISE zot_ISE_23 (by decide +kernel) hX hA hP hK hD hS (hl.1.trans hml.symm) dX1_shorten_21 dX1_shorten_24 dX1_shorten_25 dX1_shorten_27 dX1_shorten_30 hout (Nat.le_of_ble_eq_true rfl) (Nat.le_of_ble_eq_true rfl) (Nat.le_of_ble_eq_true rfl) (Nat.le_of_ble_eq_true rfl) hlocks (Or.inr ⟨rfl, hrng, fun z => absurd z (by omega)⟩) (Nat.le_of_ble_eq_true rfl) (Nat.le_of_ble_eq_true rfl)

set_option maxHeartbeats 4000000 in
set_option maxRecDepth 100000 in
theorem p_cut (l : Launch) (hst : l.stackTraces = false) (g : zG) (ua ar cnt : Nat) (rows : Nat → Option Nat) (j : Nat) (h pa da rt lf T P R0 : Nat) (py : Nat → Nat) (I Pd Wn G : Int32) (xI xP xW xG : Int64) (u v : Nat → Int32) (x1 : Int32) (hj : j < 6) (hrow : rows j = some h) (hZ : zInv rt lf (T, P, py, R0, I, Pd, Wn, G)) (hC : zCR rt (T, P, py, R0, I, Pd, Wn, G) (xI, xP, xW, xG, u, v)) : zXi l yX1_cut wsX1_cut ({ frames := 7, cells := 3, slots := 18, locals := 125 } : Room) [.ref ua, .int (nI j), .int x1] g [(ua, .inr (1, [.ref ar, .int (nI cnt)])), (ar, .inl (g.2.2.1, 6, .inr (.inr (.inr (.inr rows))))), (h, .inr (0, [.int (nI rt), .int (nI lf), .ref pa, .ref da, .int (nI T), .int (nI P), .long (lN R0), .long xI, .long xP, .long xW, .long xG])), (pa, .inl (g.2.1, 120, .inl u)), (da, .inl (g.2.1, 121, .inl v))] (fun q w => (nI 1 ≤ x1 ∧ x1 ≤ nI 99) ∧ (P < T) ∧ q = zGn rt T (zSc (100 - zN x1) py) (R0 * (100 - zN x1) / 100) (T, P, py, R0, I, Pd, Wn, G) ∧ ∃ q', w = [(ua, .inr (1, [.ref ar, .int (nI cnt)])), (ar, .inl (g.2.2.1, 6, .inr (.inr (.inr (.inr rows)))))] ++ zLW g (h, pa, da) rt lf (zGiv rt T (zSc (100 - zN x1) py) (R0 * (100 - zN x1) / 100) (T, P, py, R0, I, Pd, Wn, G)) q' ∧ zCR rt (zGiv rt T (zSc (100 - zN x1) py) (R0 * (100 - zN x1) / 100) (T, P, py, R0, I, Pd, Wn, G)) q') (fun E => (E = "java/lang/IllegalArgumentException" ∧ ¬ (nI 1 ≤ x1 ∧ x1 ≤ nI 99)) ∨ (E = "java/lang/IllegalStateException" ∧ (nI 1 ≤ x1 ∧ x1 ≤ nI 99) ∧ ¬ (P < T))) 3 18 := by
  intro sz A hAe
  refine vx_ofW (cc := cX1_cut) (maxL := 4) (ret := some .int) (by decide) rfl ?_
  intro p e s m args below meth c s₁ B hml hout hv
  obtain ⟨rfl, ⟨hsz, hP, hK, hD0⟩, hX⟩ := hv
  have hx := B.exec
  have hb := B.bytes
  have hr := B.returns
  have hts := atoms_spec (ws := wsX1_cut) B.pre
  have hown : s.vm.findClass RX1 = some m.cls := findClass_of_methodNamed B.named
  have hlocks := B.notSynchronized
  obtain ⟨hD, hA, hS⟩ := z_in hsz hAe hD0
  have hl := lv_entry ([.ref ua, .int (nI j), .int x1]) (n := 4) (Nat.le_of_ble_eq_true rfl)
  rw [lg_entry_eq]
  generalize (lg_sl ([.ref ua, .int (nI j), .int x1]) ++ List.replicate (4 - (lg_sl ([.ref ua, .int (nI j), .int x1])).length) Slot.unset).toArray = ls at hl ⊢
  have hl : lv_has ls 4 [(0, .ref ua), (1, .int (nI j)), (2, .int x1)] := hl
  have hinX0 : ∀ w ∈ wsX00, w ∈ wsX1_cut := by decide +kernel
  have hinX1 : ∀ w ∈ wsX10, w ∈ wsX1_cut := by decide +kernel
  obtain ⟨hT, hPT, hrt, hlf, hp, hRb⟩ := id hZ
  obtain ⟨hI, hPd, hWn, hG, hu, hv⟩ := id hC
  refine lv_aload_n hx hb dX1_cut_0 rfl (lv_at hl 0 rfl) ?_
  refine lv_iload_n hx hb dX1_cut_1 rfl (lv_at hl 1 rfl) ?_
  refine z_axq (wa := []) (wc := [(ua, .inr (1, [.ref ar, .int (nI cnt)])), (ar, .inl (g.2.2.1, 6, .inr (.inr (.inr (.inr rows)))))]) (wb := [(h, .inr (0, [.int (nI rt), .int (nI lf), .ref pa, .ref da, .int (nI T), .int (nI P), .long (lN R0), .long xI, .long xP, .long xW, .long xG])), (pa, .inl (g.2.1, 120, .inl u)), (da, .inl (g.2.1, 121, .inl v))]) (vx_runV (As := [.int (nI j)]) (rest := []) ⟨hx, hb, hml, hown, hts⟩ (c_leaseOf l hst g ua ar cnt rows (nI j) s.heap.size _ rfl) (cwV 1 hts gX1_cut_X1_leaseOf rfl rfl rfl (by decide +kernel) ⟨Nat.le_of_ble_eq_true rfl, Nat.le_of_ble_eq_true rfl⟩) (zpreXV (wa := []) (wc := [(ua, .inr (1, [.ref ar, .int (nI cnt)])), (ar, .inl (g.2.2.1, 6, .inr (.inr (.inr (.inr rows)))))]) (wb := [(h, .inr (0, [.int (nI rt), .int (nI lf), .ref pa, .ref da, .int (nI T), .int (nI P), .long (lN R0), .long xI, .long xP, .long xW, .long xG])), (pa, .inl (g.2.1, 120, .inl u)), (da, .inl (g.2.1, 121, .inl v))]) (q0 := 0) (ci := 1) (T := TX1) (N := 2) hK hP hD hS hA hX rfl rfl) rfl rfl hl.1 rfl (lv_room (Nat.le_of_ble_eq_true rfl)) dX1_cut_2 ⟨Nat.le_of_ble_eq_true rfl, Nat.le_of_ble_eq_true rfl⟩) hP hD hS hA (fun E ce q9 H locs hE hP hD hS hc1 hc2 hc3 => ?_) (fun r_1 w1 H locs hq hP hD hS => ?_)
  · exact absurd hrow (hE.2 j h hj rfl)
  · obtain ⟨⟨j2, h2, hj2, ej2, hr2, rfl⟩, rfl⟩ := hq
    have hP : va_P g.1 vwCl [(ua, .inr (1, [.ref ar, .int (nI cnt)])), (ar, .inl (g.2.2.1, 6, .inr (.inr (.inr (.inr rows))))), (h, .inr (0, [.int (nI rt), .int (nI lf), .ref pa, .ref da, .int (nI T), .int (nI P), .long (lN R0), .long xI, .long xP, .long xW, .long xG])), (pa, .inl (g.2.1, 120, .inl u)), (da, .inl (g.2.1, 121, .inl v))] H := hP
    have hD : va_D A [(ua, .inr (1, [.ref ar, .int (nI cnt)])), (ar, .inl (g.2.2.1, 6, .inr (.inr (.inr (.inr rows))))), (h, .inr (0, [.int (nI rt), .int (nI lf), .ref pa, .ref da, .int (nI T), .int (nI P), .long (lN R0), .long xI, .long xP, .long xW, .long xG])), (pa, .inl (g.2.1, 120, .inl u)), (da, .inl (g.2.1, 121, .inl v))] := hD
    obtain rfl : j = j2 := (nI_eq (by omega) (by omega)).mp ej2
    obtain rfl : h = h2 := Option.some.inj (hrow.symm.trans hr2)
    refine zqs ?_
    refine lv_astore_n (lv' := [(3, .ref h), (0, .ref ua), (1, .int (nI j)), (2, .int x1)]) hx hb dX1_cut_5 rfl hl (by decide) rfl (fun ls hl => ?_)
    refine lv_iload_n hx hb dX1_cut_6 rfl (lv_at hl 3 rfl) ?_
    refine lv_iconst (v := nI 1) hx hb dX1_cut_7 (by decide) ?_
    refine lv_bipush (v := nI 99) hx hb dX1_cut_8 (by decide) ?_
    refine z_axv (wa := []) (wc := []) (wb := [(ua, .inr (1, [.ref ar, .int (nI cnt)])), (ar, .inl (g.2.2.1, 6, .inr (.inr (.inr (.inr rows))))), (h, .inr (0, [.int (nI rt), .int (nI lf), .ref pa, .ref da, .int (nI T), .int (nI P), .long (lN R0), .long xI, .long xP, .long xW, .long xG])), (pa, .inl (g.2.1, 120, .inl u)), (da, .inl (g.2.1, 121, .inl v))]) (vx_runS (As := [.int x1, .int (nI 1), .int (nI 99)]) (rest := []) ⟨hx, hb, hml, hown, hts⟩ (c_mustBeWithin l hst g x1 (nI 1) (nI 99) H.size _ rfl) (va_cwS 3 hts gX1_cut_X1_mustBeWithin rfl rfl rfl (by decide +kernel) ⟨Nat.le_of_ble_eq_true rfl, Nat.le_of_ble_eq_true rfl⟩) (zpreXS (wa := []) (wc := []) (wb := [(ua, .inr (1, [.ref ar, .int (nI cnt)])), (ar, .inl (g.2.2.1, 6, .inr (.inr (.inr (.inr rows))))), (h, .inr (0, [.int (nI rt), .int (nI lf), .ref pa, .ref da, .int (nI T), .int (nI P), .long (lN R0), .long xI, .long xP, .long xW, .long xG])), (pa, .inl (g.2.1, 120, .inl u)), (da, .inl (g.2.1, 121, .inl v))]) hK hP hD hS hA hX) rfl rfl hl.1 rfl (lv_room (Nat.le_of_ble_eq_true rfl)) dX1_cut_10 ⟨Nat.le_of_ble_eq_true rfl, Nat.le_of_ble_eq_true rfl⟩) hP hD hS hA (fun E ce q9 H locs hE hP hD hS hc1 hc2 hc3 => ?_) (fun w1 H locs hq hP hD hS => ?_)
    · exact z_out hout hP hK hD hS hlocks hc1 hc2 hc3 (Or.inl hE) (Nat.le_of_ble_eq_true rfl) (Nat.le_of_ble_eq_true rfl)
    · obtain ⟨hrng, rfl⟩ := hq
      have hP : va_P g.1 vwCl [(ua, .inr (1, [.ref ar, .int (nI cnt)])), (ar, .inl (g.2.2.1, 6, .inr (.inr (.inr (.inr rows))))), (h, .inr (0, [.int (nI rt), .int (nI lf), .ref pa, .ref da, .int (nI T), .int (nI P), .long (lN R0), .long xI, .long xP, .long xW, .long xG])), (pa, .inl (g.2.1, 120, .inl u)), (da, .inl (g.2.1, 121, .inl v))] H := hP
      have hD : va_D A [(ua, .inr (1, [.ref ar, .int (nI cnt)])), (ar, .inl (g.2.2.1, 6, .inr (.inr (.inr (.inr rows))))), (h, .inr (0, [.int (nI rt), .int (nI lf), .ref pa, .ref da, .int (nI T), .int (nI P), .long (lN R0), .long xI, .long xP, .long xW, .long xG])), (pa, .inl (g.2.1, 120, .inl u)), (da, .inl (g.2.1, 121, .inl v))] := hD
      obtain ⟨e1, h11, h12⟩ := zN_in (by decide) (by decide) hrng
      refine lv_aload_n hx hb dX1_cut_13 rfl (lv_at hl 0 rfl) ?_
      refine z_axv (wa := [(ua, .inr (1, [.ref ar, .int (nI cnt)])), (ar, .inl (g.2.2.1, 6, .inr (.inr (.inr (.inr rows)))))]) (wc := [(h, .inr (0, [.int (nI rt), .int (nI lf), .ref pa, .ref da, .int (nI T), .int (nI P), .long (lN R0), .long xI, .long xP, .long xW, .long xG])), (pa, .inl (g.2.1, 120, .inl u)), (da, .inl (g.2.1, 121, .inl v))]) (wb := []) (vx_runS (As := [.ref h]) (rest := []) ⟨hx, hb, hml, hown, hts⟩ (c_mustGoOn l hst g h pa da rt lf T P (lN R0) xI xP xW xG u v hPT hT H.size _ rfl) (va_cwS 1 hts gX1_cut_X1_mustGoOn rfl rfl rfl (by decide +kernel) ⟨Nat.le_of_ble_eq_true rfl, Nat.le_of_ble_eq_true rfl⟩) (zpreXS (wa := [(ua, .inr (1, [.ref ar, .int (nI cnt)])), (ar, .inl (g.2.2.1, 6, .inr (.inr (.inr (.inr rows)))))]) (wc := [(h, .inr (0, [.int (nI rt), .int (nI lf), .ref pa, .ref da, .int (nI T), .int (nI P), .long (lN R0), .long xI, .long xP, .long xW, .long xG])), (pa, .inl (g.2.1, 120, .inl u)), (da, .inl (g.2.1, 121, .inl v))]) (wb := []) hK hP hD hS hA hX) rfl rfl hl.1 rfl (lv_room (Nat.le_of_ble_eq_true rfl)) dX1_cut_14 ⟨Nat.le_of_ble_eq_true rfl, Nat.le_of_ble_eq_true rfl⟩) hP hD hS hA (fun E ce q9 H locs hE hP hD hS hc1 hc2 hc3 => ?_) (fun w1 H locs hq hP hD hS => ?_)
      · exact z_out hout hP hK hD hS hlocks hc1 hc2 hc3 (Or.inr ⟨hE.1, hrng, fun z => absurd z (by have := hE.2; omega)⟩) (Nat.le_of_ble_eq_true rfl) (Nat.le_of_ble_eq_true rfl)
      · obtain ⟨hlt, rfl⟩ := hq
        have hP : va_P g.1 vwCl [(ua, .inr (1, [.ref ar, .int (nI cnt)])), (ar, .inl (g.2.2.1, 6, .inr (.inr (.inr (.inr rows))))), (h, .inr (0, [.int (nI rt), .int (nI lf), .ref pa, .ref da, .int (nI T), .int (nI P), .long (lN R0), .long xI, .long xP, .long xW, .long xG])), (pa, .inl (g.2.1, 120, .inl u)), (da, .inl (g.2.1, 121, .inl v))] H := hP
        have hD : va_D A [(ua, .inr (1, [.ref ar, .int (nI cnt)])), (ar, .inl (g.2.2.1, 6, .inr (.inr (.inr (.inr rows))))), (h, .inr (0, [.int (nI rt), .int (nI lf), .ref pa, .ref da, .int (nI T), .int (nI P), .long (lN R0), .long xI, .long xP, .long xW, .long xG])), (pa, .inl (g.2.1, 120, .inl u)), (da, .inl (g.2.1, 121, .inl v))] := hD
        refine lv_aload_n hx hb dX1_cut_17 rfl (lv_at hl 0 rfl) ?_
        refine lv_bipush (v := nI 100) hx hb dX1_cut_18 (by decide) ?_
        refine lv_iload_n hx hb dX1_cut_20 rfl (lv_at hl 3 rfl) ?_
        refine zi (y := nI (zN x1)) (e1) ?_
        refine z_isub hx hb dX1_cut_21 (by omega) ?_
        refine z_ai (wa := [(ua, .inr (1, [.ref ar, .int (nI cnt)])), (ar, .inl (g.2.2.1, 6, .inr (.inr (.inr (.inr rows)))))]) (wc := [(h, .inr (0, [.int (nI rt), .int (nI lf), .ref pa, .ref da, .int (nI T), .int (nI P), .long (lN R0), .long xI, .long xP, .long xW, .long xG])), (pa, .inl (g.2.1, 120, .inl u)), (da, .inl (g.2.1, 121, .inl v))]) (wb := []) (va_runV (As := [.int (nI (100 - (zN x1)))]) (rest := []) ⟨hx, hb, hml, hown, hts⟩ (c_keepPart l g h pa da rt lf T P R0 py I Pd Wn G xI xP xW xG u v (100 - zN x1) hZ hC (by omega) H.size _ rfl) (cwV 1 hts gX1_cut_X0_keepPart rfl rfl rfl (by decide +kernel) ⟨Nat.le_of_ble_eq_true rfl, Nat.le_of_ble_eq_true rfl⟩) (zpreV (wa := [(ua, .inr (1, [.ref ar, .int (nI cnt)])), (ar, .inl (g.2.2.1, 6, .inr (.inr (.inr (.inr rows)))))]) (wc := [(h, .inr (0, [.int (nI rt), .int (nI lf), .ref pa, .ref da, .int (nI T), .int (nI P), .long (lN R0), .long xI, .long xP, .long xW, .long xG])), (pa, .inl (g.2.1, 120, .inl u)), (da, .inl (g.2.1, 121, .inl v))]) (wb := []) (q0 := 0) (ci := 0) (T := TX0) (N := 11) hK hP hD rfl rfl) rfl rfl hl.1 rfl (lv_room (Nat.le_of_ble_eq_true rfl)) dX1_cut_22 ⟨Nat.le_of_ble_eq_true rfl, Nat.le_of_ble_eq_true rfl⟩) hP hD hS hA (fun r_4 w1 H locs hq hP hD hS => ?_)
        obtain ⟨rfl, q2, rfl, hC2⟩ := hq
        have hP : va_P g.1 vwCl ([(ua, .inr (1, [.ref ar, .int (nI cnt)])), (ar, .inl (g.2.2.1, 6, .inr (.inr (.inr (.inr rows)))))] ++ (zLW g (h, pa, da) rt lf (zGiv rt T (zSc (100 - zN x1) py) (R0 * (100 - zN x1) / 100) (T, P, py, R0, I, Pd, Wn, G)) q2)) H := hP
        have hD : va_D A ([(ua, .inr (1, [.ref ar, .int (nI cnt)])), (ar, .inl (g.2.2.1, 6, .inr (.inr (.inr (.inr rows)))))] ++ (zLW g (h, pa, da) rt lf (zGiv rt T (zSc (100 - zN x1) py) (R0 * (100 - zN x1) / 100) (T, P, py, R0, I, Pd, Wn, G)) q2)) := hD
        exact z_xiret hx hb hr hP hK hD hS dX1_cut_25 hlocks (⟨hrng, hlt, rfl, q2, rfl, hC2⟩)

set_option maxHeartbeats 4000000 in
set_option maxRecDepth 100000 in
theorem p_rateFor (l : Launch) (hst : l.stackTraces = false) (g : zG) (ua ar cnt : Nat) (rows : Nat → Option Nat) (j : Nat) (h pa da rt lf T P R0 : Nat) (py : Nat → Nat) (I Pd Wn G : Int32) (xI xP xW xG : Int64) (u v : Nat → Int32) (x1 : Int32) (hj : j < 6) (hrow : rows j = some h) (hZ : zInv rt lf (T, P, py, R0, I, Pd, Wn, G)) (hC : zCR rt (T, P, py, R0, I, Pd, Wn, G) (xI, xP, xW, xG, u, v)) : zXi l yX1_rateFor wsX1_rateFor ({ frames := 7, cells := 2, slots := 12, locals := 125 } : Room) [.ref ua, .int (nI j), .int x1] g [(ua, .inr (1, [.ref ar, .int (nI cnt)])), (ar, .inl (g.2.2.1, 6, .inr (.inr (.inr (.inr rows))))), (h, .inr (0, [.int (nI rt), .int (nI lf), .ref pa, .ref da, .int (nI T), .int (nI P), .long (lN R0), .long xI, .long xP, .long xW, .long xG])), (pa, .inl (g.2.1, 120, .inl u)), (da, .inl (g.2.1, 121, .inl v))] (fun q w => (nI 0 ≤ x1 ∧ x1 ≤ nI 10000000) ∧ zRate py T P (zN x1) q ∧ w = [(ua, .inr (1, [.ref ar, .int (nI cnt)])), (ar, .inl (g.2.2.1, 6, .inr (.inr (.inr (.inr rows))))), (h, .inr (0, [.int (nI rt), .int (nI lf), .ref pa, .ref da, .int (nI T), .int (nI P), .long (lN R0), .long xI, .long xP, .long xW, .long xG])), (pa, .inl (g.2.1, 120, .inl u)), (da, .inl (g.2.1, 121, .inl v))]) (fun E => E = "java/lang/IllegalArgumentException" ∧ ¬ (nI 0 ≤ x1 ∧ x1 ≤ nI 10000000)) 2 12 := by
  intro sz A hAe
  refine vx_ofW (cc := cX1_rateFor) (maxL := 8) (ret := some .int) (by decide) rfl ?_
  intro p e s m args below meth c s₁ B hml hout hv
  obtain ⟨rfl, ⟨hsz, hP, hK, hD0⟩, hX⟩ := hv
  have hx := B.exec
  have hb := B.bytes
  have hr := B.returns
  have hts := atoms_spec (ws := wsX1_rateFor) B.pre
  have hown : s.vm.findClass RX1 = some m.cls := findClass_of_methodNamed B.named
  have hlocks := B.notSynchronized
  obtain ⟨hD, hA, hS⟩ := z_in hsz hAe hD0
  have hl := lv_entry ([.ref ua, .int (nI j), .int x1]) (n := 8) (Nat.le_of_ble_eq_true rfl)
  rw [lg_entry_eq]
  generalize (lg_sl ([.ref ua, .int (nI j), .int x1]) ++ List.replicate (8 - (lg_sl ([.ref ua, .int (nI j), .int x1])).length) Slot.unset).toArray = ls at hl ⊢
  have hl : lv_has ls 8 [(0, .ref ua), (1, .int (nI j)), (2, .int x1)] := hl
  have hinX0 : ∀ w ∈ wsX00, w ∈ wsX1_rateFor := by decide +kernel
  have hinX1 : ∀ w ∈ wsX10, w ∈ wsX1_rateFor := by decide +kernel
  obtain ⟨hT, hPT, hrt, hlf, hp, hRb⟩ := id hZ
  obtain ⟨hI, hPd, hWn, hG, hu, hv⟩ := id hC
  refine lv_aload_n hx hb dX1_rateFor_0 rfl (lv_at hl 0 rfl) ?_
  refine lv_iload_n hx hb dX1_rateFor_1 rfl (lv_at hl 1 rfl) ?_
  refine z_axq (wa := []) (wc := [(ua, .inr (1, [.ref ar, .int (nI cnt)])), (ar, .inl (g.2.2.1, 6, .inr (.inr (.inr (.inr rows)))))]) (wb := [(h, .inr (0, [.int (nI rt), .int (nI lf), .ref pa, .ref da, .int (nI T), .int (nI P), .long (lN R0), .long xI, .long xP, .long xW, .long xG])), (pa, .inl (g.2.1, 120, .inl u)), (da, .inl (g.2.1, 121, .inl v))]) (vx_runV (As := [.int (nI j)]) (rest := []) ⟨hx, hb, hml, hown, hts⟩ (c_leaseOf l hst g ua ar cnt rows (nI j) s.heap.size _ rfl) (cwV 1 hts gX1_rateFor_X1_leaseOf rfl rfl rfl (by decide +kernel) ⟨Nat.le_of_ble_eq_true rfl, Nat.le_of_ble_eq_true rfl⟩) (zpreXV (wa := []) (wc := [(ua, .inr (1, [.ref ar, .int (nI cnt)])), (ar, .inl (g.2.2.1, 6, .inr (.inr (.inr (.inr rows)))))]) (wb := [(h, .inr (0, [.int (nI rt), .int (nI lf), .ref pa, .ref da, .int (nI T), .int (nI P), .long (lN R0), .long xI, .long xP, .long xW, .long xG])), (pa, .inl (g.2.1, 120, .inl u)), (da, .inl (g.2.1, 121, .inl v))]) (q0 := 0) (ci := 1) (T := TX1) (N := 2) hK hP hD hS hA hX rfl rfl) rfl rfl hl.1 rfl (lv_room (Nat.le_of_ble_eq_true rfl)) dX1_rateFor_2 ⟨Nat.le_of_ble_eq_true rfl, Nat.le_of_ble_eq_true rfl⟩) hP hD hS hA (fun E ce q9 H locs hE hP hD hS hc1 hc2 hc3 => ?_) (fun r_1 w1 H locs hq hP hD hS => ?_)
  · exact absurd hrow (hE.2 j h hj rfl)
  · obtain ⟨⟨j2, h2, hj2, ej2, hr2, rfl⟩, rfl⟩ := hq
    have hP : va_P g.1 vwCl [(ua, .inr (1, [.ref ar, .int (nI cnt)])), (ar, .inl (g.2.2.1, 6, .inr (.inr (.inr (.inr rows))))), (h, .inr (0, [.int (nI rt), .int (nI lf), .ref pa, .ref da, .int (nI T), .int (nI P), .long (lN R0), .long xI, .long xP, .long xW, .long xG])), (pa, .inl (g.2.1, 120, .inl u)), (da, .inl (g.2.1, 121, .inl v))] H := hP
    have hD : va_D A [(ua, .inr (1, [.ref ar, .int (nI cnt)])), (ar, .inl (g.2.2.1, 6, .inr (.inr (.inr (.inr rows))))), (h, .inr (0, [.int (nI rt), .int (nI lf), .ref pa, .ref da, .int (nI T), .int (nI P), .long (lN R0), .long xI, .long xP, .long xW, .long xG])), (pa, .inl (g.2.1, 120, .inl u)), (da, .inl (g.2.1, 121, .inl v))] := hD
    obtain rfl : j = j2 := (nI_eq (by omega) (by omega)).mp ej2
    obtain rfl : h = h2 := Option.some.inj (hrow.symm.trans hr2)
    refine zqs ?_
    refine lv_astore_n (lv' := [(3, .ref h), (0, .ref ua), (1, .int (nI j)), (2, .int x1)]) hx hb dX1_rateFor_5 rfl hl (by decide) rfl (fun ls hl => ?_)
    refine lv_iload_n hx hb dX1_rateFor_6 rfl (lv_at hl 3 rfl) ?_
    refine lv_iconst (v := nI 0) hx hb dX1_rateFor_7 (by decide) ?_
    refine lv_ldc (v := nI 10000000) hx hb hown (hts (.constant RX1 110 (10000000)) (by decide +kernel)) dX1_rateFor_8 ?_
    refine z_axv (wa := []) (wc := []) (wb := [(ua, .inr (1, [.ref ar, .int (nI cnt)])), (ar, .inl (g.2.2.1, 6, .inr (.inr (.inr (.inr rows))))), (h, .inr (0, [.int (nI rt), .int (nI lf), .ref pa, .ref da, .int (nI T), .int (nI P), .long (lN R0), .long xI, .long xP, .long xW, .long xG])), (pa, .inl (g.2.1, 120, .inl u)), (da, .inl (g.2.1, 121, .inl v))]) (vx_runS (As := [.int x1, .int (nI 0), .int (nI 10000000)]) (rest := []) ⟨hx, hb, hml, hown, hts⟩ (c_mustBeWithin l hst g x1 (nI 0) (nI 10000000) H.size _ rfl) (va_cwS 3 hts gX1_rateFor_X1_mustBeWithin rfl rfl rfl (by decide +kernel) ⟨Nat.le_of_ble_eq_true rfl, Nat.le_of_ble_eq_true rfl⟩) (zpreXS (wa := []) (wc := []) (wb := [(ua, .inr (1, [.ref ar, .int (nI cnt)])), (ar, .inl (g.2.2.1, 6, .inr (.inr (.inr (.inr rows))))), (h, .inr (0, [.int (nI rt), .int (nI lf), .ref pa, .ref da, .int (nI T), .int (nI P), .long (lN R0), .long xI, .long xP, .long xW, .long xG])), (pa, .inl (g.2.1, 120, .inl u)), (da, .inl (g.2.1, 121, .inl v))]) hK hP hD hS hA hX) rfl rfl hl.1 rfl (lv_room (Nat.le_of_ble_eq_true rfl)) dX1_rateFor_10 ⟨Nat.le_of_ble_eq_true rfl, Nat.le_of_ble_eq_true rfl⟩) hP hD hS hA (fun E ce q9 H locs hE hP hD hS hc1 hc2 hc3 => ?_) (fun w1 H locs hq hP hD hS => ?_)
    · exact z_out hout hP hK hD hS hlocks hc1 hc2 hc3 hE (Nat.le_of_ble_eq_true rfl) (Nat.le_of_ble_eq_true rfl)
    · obtain ⟨hrng, rfl⟩ := hq
      have hP : va_P g.1 vwCl [(ua, .inr (1, [.ref ar, .int (nI cnt)])), (ar, .inl (g.2.2.1, 6, .inr (.inr (.inr (.inr rows))))), (h, .inr (0, [.int (nI rt), .int (nI lf), .ref pa, .ref da, .int (nI T), .int (nI P), .long (lN R0), .long xI, .long xP, .long xW, .long xG])), (pa, .inl (g.2.1, 120, .inl u)), (da, .inl (g.2.1, 121, .inl v))] H := hP
      have hD : va_D A [(ua, .inr (1, [.ref ar, .int (nI cnt)])), (ar, .inl (g.2.2.1, 6, .inr (.inr (.inr (.inr rows))))), (h, .inr (0, [.int (nI rt), .int (nI lf), .ref pa, .ref da, .int (nI T), .int (nI P), .long (lN R0), .long xI, .long xP, .long xW, .long xG])), (pa, .inl (g.2.1, 120, .inl u)), (da, .inl (g.2.1, 121, .inl v))] := hD
      obtain ⟨e1, h11, h12⟩ := zN_in (by decide) (by decide) hrng
      have hW := fun r0 => z_wb (r := r0) (j := P) hT hp (Nat.le_refl P)
      refine lv_aload_n hx hb dX1_rateFor_13 rfl (lv_at hl 0 rfl) ?_
      refine lv_sipush (v := nI 20000) hx hb dX1_rateFor_14 (by decide) ?_
      have hW1 := hW 20000
      refine z_al (wa := [(ua, .inr (1, [.ref ar, .int (nI cnt)])), (ar, .inl (g.2.2.1, 6, .inr (.inr (.inr (.inr rows)))))]) (wc := [(h, .inr (0, [.int (nI rt), .int (nI lf), .ref pa, .ref da, .int (nI T), .int (nI P), .long (lN R0), .long xI, .long xP, .long xW, .long xG])), (pa, .inl (g.2.1, 120, .inl u)), (da, .inl (g.2.1, 121, .inl v))]) (wb := []) (va_runV (As := [.int (nI 20000)]) (rest := []) ⟨hx, hb, hml, hown, hts⟩ (c_worthAt l g h pa da rt lf T P (lN R0) xI xP xW xG u v py 20000 hT hPT hp hu (by omega) H.size _ rfl) (cwV 1 hts gX1_rateFor_X0_worthAt rfl rfl rfl (by decide +kernel) ⟨Nat.le_of_ble_eq_true rfl, Nat.le_of_ble_eq_true rfl⟩) (zpreV (wa := [(ua, .inr (1, [.ref ar, .int (nI cnt)])), (ar, .inl (g.2.2.1, 6, .inr (.inr (.inr (.inr rows)))))]) (wc := [(h, .inr (0, [.int (nI rt), .int (nI lf), .ref pa, .ref da, .int (nI T), .int (nI P), .long (lN R0), .long xI, .long xP, .long xW, .long xG])), (pa, .inl (g.2.1, 120, .inl u)), (da, .inl (g.2.1, 121, .inl v))]) (wb := []) (q0 := 0) (ci := 0) (T := TX0) (N := 11) hK hP hD rfl rfl) rfl rfl hl.1 rfl (lv_room (Nat.le_of_ble_eq_true rfl)) dX1_rateFor_17 ⟨Nat.le_of_ble_eq_true rfl, Nat.le_of_ble_eq_true rfl⟩) hP hD hS hA (fun r_3 w1 H locs hq hP hD hS => ?_)
      obtain ⟨rfl, rfl⟩ := hq
      have hP : va_P g.1 vwCl [(ua, .inr (1, [.ref ar, .int (nI cnt)])), (ar, .inl (g.2.2.1, 6, .inr (.inr (.inr (.inr rows))))), (h, .inr (0, [.int (nI rt), .int (nI lf), .ref pa, .ref da, .int (nI T), .int (nI P), .long (lN R0), .long xI, .long xP, .long xW, .long xG])), (pa, .inl (g.2.1, 120, .inl u)), (da, .inl (g.2.1, 121, .inl v))] H := hP
      have hD : va_D A [(ua, .inr (1, [.ref ar, .int (nI cnt)])), (ar, .inl (g.2.2.1, 6, .inr (.inr (.inr (.inr rows))))), (h, .inr (0, [.int (nI rt), .int (nI lf), .ref pa, .ref da, .int (nI T), .int (nI P), .long (lN R0), .long xI, .long xP, .long xW, .long xG])), (pa, .inl (g.2.1, 120, .inl u)), (da, .inl (g.2.1, 121, .inl v))] := hD
      refine lv_iload_n hx hb dX1_rateFor_20 rfl (lv_at hl 3 rfl) ?_
      refine zi (y := nI (zN x1)) (e1) ?_
      refine z_i2l hx hb dX1_rateFor_21 (by omega) ?_
      refine z_lif_le (tgt := 28) (pc2 := 23) hx hb dX1_rateFor_22 rfl dX1_rateFor_23 (by decide) (fun hc => ?_) (fun hc => ?_)
      · rw [pk_lLE (by omega) (by omega)] at hc
        refine lv_iconst (v := nI 0) hx hb dX1_rateFor_28 (by decide) ?_
        refine lv_istore (lv' := [(4, .int (nI 0)), (3, .ref h), (0, .ref ua), (1, .int (nI j)), (2, .int x1)]) hx hb dX1_rateFor_29 hl (by decide) rfl (fun ls hl => ?_)
        refine lv_sipush (v := nI 20000) hx hb dX1_rateFor_31 (by decide) ?_
        refine lv_istore (lv' := [(5, .int (nI 20000)), (4, .int (nI 0)), (3, .ref h), (0, .ref ua), (1, .int (nI j)), (2, .int x1)]) hx hb dX1_rateFor_34 hl (by decide) rfl (fun ls hl => ?_)
        refine lv_iconst (v := nI 0) hx hb dX1_rateFor_36 (by decide) ?_
        refine lv_istore (lv' := [(6, .int (nI 0)), (5, .int (nI 20000)), (4, .int (nI 0)), (3, .ref h), (0, .ref ua), (1, .int (nI j)), (2, .int x1)]) hx hb dX1_rateFor_37 hl (by decide) rfl (fun ls hl => ?_)
        have loop : ∀ (n : Nat) (i lo hi : Nat) (H : Heap) (locs : List Loc) (ls : Array Slot), 20000 < i + n → hi - lo ≤ 20000 - i → i ≤ 20000 → hi ≤ 20000 → lo ≤ hi → zWr hi py T (T - P) ≤ zN x1 → (∀ k, k < lo → zN x1 < zWr k py T (T - P)) → va_P g.1 vwCl [(ua, .inr (1, [.ref ar, .int (nI cnt)])), (ar, .inl (g.2.2.1, 6, .inr (.inr (.inr (.inr rows))))), (h, .inr (0, [.int (nI rt), .int (nI lf), .ref pa, .ref da, .int (nI T), .int (nI P), .long (lN R0), .long xI, .long xP, .long xW, .long xG])), (pa, .inl (g.2.1, 120, .inl u)), (da, .inl (g.2.1, 121, .inl v))] H → va_D A [(ua, .inr (1, [.ref ar, .int (nI cnt)])), (ar, .inl (g.2.2.1, 6, .inr (.inr (.inr (.inr rows))))), (h, .inr (0, [.int (nI rt), .int (nI lf), .ref pa, .ref da, .int (nI T), .int (nI P), .long (lN R0), .long xI, .long xP, .long xW, .long xG])), (pa, .inl (g.2.1, 120, .inl u)), (da, .inl (g.2.1, 121, .inl v))] → va_S A s.heap H locs → lv_has ls 8 [(6, .int (nI i)), (4, .int (nI lo)), (5, .int (nI hi)), (0, .ref ua), (1, .int (nI j)), (2, .int x1), (3, .ref h)] → W p l e (headSpec wsX1_rateFor ({ frames := 7, cells := 2, slots := 12, locals := 125 } : Room)).room s m ([.ref ua, .int (nI j), .int x1] : List Value).toArray below meth c H locs 2 12 (vx_MQ below (va_Qi (fun q w => (nI 0 ≤ x1 ∧ x1 ≤ nI 10000000) ∧ zRate py T P (zN x1) q ∧ w = [(ua, .inr (1, [.ref ar, .int (nI cnt)])), (ar, .inl (g.2.2.1, 6, .inr (.inr (.inr (.inr rows))))), (h, .inr (0, [.int (nI rt), .int (nI lf), .ref pa, .ref da, .int (nI T), .int (nI P), .long (lN R0), .long xI, .long xP, .long xW, .long xG])), (pa, .inl (g.2.1, 120, .inl u)), (da, .inl (g.2.1, 121, .inl v))]) (zOut g A) A) (zQX g [(ua, .inr (1, [.ref ar, .int (nI cnt)])), (ar, .inl (g.2.2.1, 6, .inr (.inr (.inr (.inr rows))))), (h, .inr (0, [.int (nI rt), .int (nI lf), .ref pa, .ref da, .int (nI T), .int (nI P), .long (lN R0), .long xI, .long xP, .long xW, .long xG])), (pa, .inl (g.2.1, 120, .inl u)), (da, .inl (g.2.1, 121, .inl v))] (fun E => E = "java/lang/IllegalArgumentException" ∧ ¬ (nI 0 ≤ x1 ∧ x1 ≤ nI 10000000)) A) ([.ref ua, .int (nI j), .int x1] : List Value).toArray s 2 12 A) (F0 m 39 ls []) := by
          intro n
          induction n with
          | zero =>
            intro i lo hi H locs ls hn hi0 hi1 hi2 hi3 hle hlt2 hP hD hS hl
            exfalso; omega
          | succ n ih =>
            intro i lo hi H locs ls hn hi0 hi1 hi2 hi3 hle hlt2 hP hD hS hl
            refine lv_iload hx hb dX1_rateFor_39 (lv_at hl 0 rfl) ?_
            refine lv_sipush (v := nI 20000) hx hb dX1_rateFor_41 (by decide) ?_
            refine z_icmp_ge (tgt := 94) hx hb dX1_rateFor_44 (by decide) (by omega) (by omega) (fun ha => ?_) (fun ha => ?_)
            · refine lv_iload hx hb dX1_rateFor_94 (lv_at hl 1 rfl) ?_
              exact z_xiret hx hb hr hP hK hD hS dX1_rateFor_96 hlocks (⟨hrng, Or.inr ⟨lo, rfl, by omega, (by rw [show lo = hi by omega]; exact hle), hlt2⟩, rfl⟩)
            · refine lv_iload hx hb dX1_rateFor_47 (lv_at hl 1 rfl) ?_
              refine lv_iload hx hb dX1_rateFor_49 (lv_at hl 2 rfl) ?_
              refine z_icmp_ge (tgt := 94) hx hb dX1_rateFor_51 (by decide) (by omega) (by omega) (fun hb3 => ?_) (fun hb3 => ?_)
              · refine lv_iload hx hb dX1_rateFor_94 (lv_at hl 1 rfl) ?_
                exact z_xiret hx hb hr hP hK hD hS dX1_rateFor_96 hlocks (⟨hrng, Or.inr ⟨lo, rfl, by omega, (by rw [show lo = hi by omega]; exact hle), hlt2⟩, rfl⟩)
              · refine lv_iload hx hb dX1_rateFor_54 (lv_at hl 1 rfl) ?_
                refine lv_iload hx hb dX1_rateFor_56 (lv_at hl 2 rfl) ?_
                refine z_iadd hx hb dX1_rateFor_58 ?_
                refine lv_iconst (v := nI 2) hx hb dX1_rateFor_59 (by decide) ?_
                refine z_idiv hx hb dX1_rateFor_60 (by omega) (by omega) (by omega) ?_
                refine lv_istore (lv' := [(7, .int (nI ((lo + hi) / 2))), (6, .int (nI i)), (4, .int (nI lo)), (5, .int (nI hi)), (0, .ref ua), (1, .int (nI j)), (2, .int x1), (3, .ref h)]) hx hb dX1_rateFor_61 hl (by decide) rfl (fun ls hl => ?_)
                refine lv_aload_n hx hb dX1_rateFor_63 rfl (lv_at hl 7 rfl) ?_
                refine lv_iload hx hb dX1_rateFor_64 (lv_at hl 0 rfl) ?_
                have hW2 := hW ((lo + hi) / 2)
                refine z_al (wa := [(ua, .inr (1, [.ref ar, .int (nI cnt)])), (ar, .inl (g.2.2.1, 6, .inr (.inr (.inr (.inr rows)))))]) (wc := [(h, .inr (0, [.int (nI rt), .int (nI lf), .ref pa, .ref da, .int (nI T), .int (nI P), .long (lN R0), .long xI, .long xP, .long xW, .long xG])), (pa, .inl (g.2.1, 120, .inl u)), (da, .inl (g.2.1, 121, .inl v))]) (wb := []) (va_runV (As := [.int (nI ((lo + hi) / 2))]) (rest := []) ⟨hx, hb, hml, hown, hts⟩ (c_worthAt l g h pa da rt lf T P (lN R0) xI xP xW xG u v py ((lo + hi) / 2) hT hPT hp hu (by omega) H.size _ rfl) (cwV 1 hts gX1_rateFor_X0_worthAt rfl rfl rfl (by decide +kernel) ⟨Nat.le_of_ble_eq_true rfl, Nat.le_of_ble_eq_true rfl⟩) (zpreV (wa := [(ua, .inr (1, [.ref ar, .int (nI cnt)])), (ar, .inl (g.2.2.1, 6, .inr (.inr (.inr (.inr rows)))))]) (wc := [(h, .inr (0, [.int (nI rt), .int (nI lf), .ref pa, .ref da, .int (nI T), .int (nI P), .long (lN R0), .long xI, .long xP, .long xW, .long xG])), (pa, .inl (g.2.1, 120, .inl u)), (da, .inl (g.2.1, 121, .inl v))]) (wb := []) (q0 := 0) (ci := 0) (T := TX0) (N := 11) hK hP hD rfl rfl) rfl rfl hl.1 rfl (lv_room (Nat.le_of_ble_eq_true rfl)) dX1_rateFor_66 ⟨Nat.le_of_ble_eq_true rfl, Nat.le_of_ble_eq_true rfl⟩) hP hD hS hA (fun r_4 w1 H locs hq hP hD hS => ?_)
                obtain ⟨rfl, rfl⟩ := hq
                have hP : va_P g.1 vwCl [(ua, .inr (1, [.ref ar, .int (nI cnt)])), (ar, .inl (g.2.2.1, 6, .inr (.inr (.inr (.inr rows))))), (h, .inr (0, [.int (nI rt), .int (nI lf), .ref pa, .ref da, .int (nI T), .int (nI P), .long (lN R0), .long xI, .long xP, .long xW, .long xG])), (pa, .inl (g.2.1, 120, .inl u)), (da, .inl (g.2.1, 121, .inl v))] H := hP
                have hD : va_D A [(ua, .inr (1, [.ref ar, .int (nI cnt)])), (ar, .inl (g.2.2.1, 6, .inr (.inr (.inr (.inr rows))))), (h, .inr (0, [.int (nI rt), .int (nI lf), .ref pa, .ref da, .int (nI T), .int (nI P), .long (lN R0), .long xI, .long xP, .long xW, .long xG])), (pa, .inl (g.2.1, 120, .inl u)), (da, .inl (g.2.1, 121, .inl v))] := hD
                refine lv_iload_n hx hb dX1_rateFor_69 rfl (lv_at hl 6 rfl) ?_
                refine zi (y := nI (zN x1)) (e1) ?_
                refine z_i2l hx hb dX1_rateFor_70 (by omega) ?_
                refine z_lif_gt (tgt := 82) (pc2 := 72) hx hb dX1_rateFor_71 rfl dX1_rateFor_72 (by decide) (fun hd => ?_) (fun hd => ?_)
                · rw [pk_lLT (by omega) (by omega)] at hd
                  refine lv_iload hx hb dX1_rateFor_82 (lv_at hl 0 rfl) ?_
                  refine lv_iconst (v := nI 1) hx hb dX1_rateFor_84 (by decide) ?_
                  refine z_iadd hx hb dX1_rateFor_85 ?_
                  refine lv_istore (lv' := [(4, .int (nI ((lo + hi) / 2 + 1))), (7, .int (nI ((lo + hi) / 2))), (6, .int (nI i)), (5, .int (nI hi)), (0, .ref ua), (1, .int (nI j)), (2, .int x1), (3, .ref h)]) hx hb dX1_rateFor_86 hl (by decide) rfl (fun ls hl => ?_)
                  refine z_iinc (lv' := [(6, .int (nI (i + 1))), (4, .int (nI ((lo + hi) / 2 + 1))), (7, .int (nI ((lo + hi) / 2))), (5, .int (nI hi)), (0, .ref ua), (1, .int (nI j)), (2, .int x1), (3, .ref h)]) hx hb dX1_rateFor_88 hl (k := 2) rfl (by decide) rfl (fun ls hl => ?_)
                  refine lv_goto (tgt := 39) hx hb dX1_rateFor_91 (by decide) ?_
                  exact ih (i + 1) ((lo + hi) / 2 + 1) hi H _ _ (by omega) (by omega) (by omega) (by omega) (by omega) hle (fun k hk => Nat.lt_of_lt_of_le hd (zWr_anti (by omega) py T (T - P))) hP hD hS (lv_sub hl [0, 1, 3, 4, 5, 6, 7] rfl)
                · rw [pk_lLE (by omega) (by omega)] at hd
                  refine lv_iload hx hb dX1_rateFor_75 (lv_at hl 0 rfl) ?_
                  refine lv_istore (lv' := [(5, .int (nI ((lo + hi) / 2))), (7, .int (nI ((lo + hi) / 2))), (6, .int (nI i)), (4, .int (nI lo)), (0, .ref ua), (1, .int (nI j)), (2, .int x1), (3, .ref h)]) hx hb dX1_rateFor_77 hl (by decide) rfl (fun ls hl => ?_)
                  refine lv_goto (tgt := 88) hx hb dX1_rateFor_79 (by decide) ?_
                  refine z_iinc (lv' := [(6, .int (nI (i + 1))), (5, .int (nI ((lo + hi) / 2))), (7, .int (nI ((lo + hi) / 2))), (4, .int (nI lo)), (0, .ref ua), (1, .int (nI j)), (2, .int x1), (3, .ref h)]) hx hb dX1_rateFor_88 hl (k := 2) rfl (by decide) rfl (fun ls hl => ?_)
                  refine lv_goto (tgt := 39) hx hb dX1_rateFor_91 (by decide) ?_
                  exact ih (i + 1) lo ((lo + hi) / 2) H _ _ (by omega) (by omega) (by omega) (by omega) (by omega) hd hlt2 hP hD hS (lv_sub hl [0, 3, 1, 4, 5, 6, 7] rfl)
        exact loop 20001 0 0 20000 H _ _ (by omega) (by omega) (by omega) (by omega) (by omega) hc (fun k hk => absurd hk (by omega)) hP hD hS (lv_sub hl [0, 2, 1, 4, 5, 6, 3] rfl)
      · rw [pk_lLT (by omega) (by omega)] at hc
        refine lv_iconst (v := (-1)) hx hb dX1_rateFor_26 (by decide) ?_
        exact z_xiret hx hb hr hP hK hD hS dX1_rateFor_27 hlocks (⟨hrng, Or.inl ⟨rfl, hc⟩, rfl⟩)

set_option maxHeartbeats 4000000 in
set_option maxRecDepth 100000 in
theorem p_saleGain (l : Launch) (hst : l.stackTraces = false) (g : zG) (ua ar cnt : Nat) (rows : Nat → Option Nat) (j : Nat) (h pa da rt lf T P R0 : Nat) (py : Nat → Nat) (I Pd Wn G : Int32) (xI xP xW xG : Int64) (u v : Nat → Int32) (x1 x2 : Int32) (hj : j < 6) (hrow : rows j = some h) (hZ : zInv rt lf (T, P, py, R0, I, Pd, Wn, G)) (hC : zCR rt (T, P, py, R0, I, Pd, Wn, G) (xI, xP, xW, xG, u, v)) : zXi l yX1_saleGain wsX1_saleGain ({ frames := 7, cells := 3, slots := 18, locals := 125 } : Room) [.ref ua, .int (nI j), .int x1, .int x2] g [(ua, .inr (1, [.ref ar, .int (nI cnt)])), (ar, .inl (g.2.2.1, 6, .inr (.inr (.inr (.inr rows))))), (h, .inr (0, [.int (nI rt), .int (nI lf), .ref pa, .ref da, .int (nI T), .int (nI P), .long (lN R0), .long xI, .long xP, .long xW, .long xG])), (pa, .inl (g.2.1, 120, .inl u)), (da, .inl (g.2.1, 121, .inl v))] (fun q w => ((nI 0 ≤ x1 ∧ x1 ≤ nI 10000000) ∧ (nI 1 ≤ x2 ∧ x2 ≤ nI 10000000)) ∧ q = zSale (zWr rt py T (T - P)) x1 x2 ∧ w = [(ua, .inr (1, [.ref ar, .int (nI cnt)])), (ar, .inl (g.2.2.1, 6, .inr (.inr (.inr (.inr rows))))), (h, .inr (0, [.int (nI rt), .int (nI lf), .ref pa, .ref da, .int (nI T), .int (nI P), .long (lN R0), .long xI, .long xP, .long xW, .long xG])), (pa, .inl (g.2.1, 120, .inl u)), (da, .inl (g.2.1, 121, .inl v))]) (fun E => E = "java/lang/IllegalArgumentException" ∧ ¬ ((nI 0 ≤ x1 ∧ x1 ≤ nI 10000000) ∧ (nI 1 ≤ x2 ∧ x2 ≤ nI 10000000))) 3 18 := by
  intro sz A hAe
  refine vx_ofW (cc := cX1_saleGain) (maxL := 7) (ret := some .int) (by decide) rfl ?_
  intro p e s m args below meth c s₁ B hml hout hv
  obtain ⟨rfl, ⟨hsz, hP, hK, hD0⟩, hX⟩ := hv
  have hx := B.exec
  have hb := B.bytes
  have hr := B.returns
  have hts := atoms_spec (ws := wsX1_saleGain) B.pre
  have hown : s.vm.findClass RX1 = some m.cls := findClass_of_methodNamed B.named
  have hlocks := B.notSynchronized
  obtain ⟨hD, hA, hS⟩ := z_in hsz hAe hD0
  have hl := lv_entry ([.ref ua, .int (nI j), .int x1, .int x2]) (n := 7) (Nat.le_of_ble_eq_true rfl)
  rw [lg_entry_eq]
  generalize (lg_sl ([.ref ua, .int (nI j), .int x1, .int x2]) ++ List.replicate (7 - (lg_sl ([.ref ua, .int (nI j), .int x1, .int x2])).length) Slot.unset).toArray = ls at hl ⊢
  have hl : lv_has ls 7 [(0, .ref ua), (1, .int (nI j)), (2, .int x1), (3, .int x2)] := hl
  have hinX0 : ∀ w ∈ wsX00, w ∈ wsX1_saleGain := by decide +kernel
  have hinX1 : ∀ w ∈ wsX10, w ∈ wsX1_saleGain := by decide +kernel
  obtain ⟨hT, hPT, hrt, hlf, hp, hRb⟩ := id hZ
  obtain ⟨hI, hPd, hWn, hG, hu, hv⟩ := id hC
  refine lv_aload_n hx hb dX1_saleGain_0 rfl (lv_at hl 0 rfl) ?_
  refine lv_iload_n hx hb dX1_saleGain_1 rfl (lv_at hl 1 rfl) ?_
  refine z_axq (wa := []) (wc := [(ua, .inr (1, [.ref ar, .int (nI cnt)])), (ar, .inl (g.2.2.1, 6, .inr (.inr (.inr (.inr rows)))))]) (wb := [(h, .inr (0, [.int (nI rt), .int (nI lf), .ref pa, .ref da, .int (nI T), .int (nI P), .long (lN R0), .long xI, .long xP, .long xW, .long xG])), (pa, .inl (g.2.1, 120, .inl u)), (da, .inl (g.2.1, 121, .inl v))]) (vx_runV (As := [.int (nI j)]) (rest := []) ⟨hx, hb, hml, hown, hts⟩ (c_leaseOf l hst g ua ar cnt rows (nI j) s.heap.size _ rfl) (cwV 1 hts gX1_saleGain_X1_leaseOf rfl rfl rfl (by decide +kernel) ⟨Nat.le_of_ble_eq_true rfl, Nat.le_of_ble_eq_true rfl⟩) (zpreXV (wa := []) (wc := [(ua, .inr (1, [.ref ar, .int (nI cnt)])), (ar, .inl (g.2.2.1, 6, .inr (.inr (.inr (.inr rows)))))]) (wb := [(h, .inr (0, [.int (nI rt), .int (nI lf), .ref pa, .ref da, .int (nI T), .int (nI P), .long (lN R0), .long xI, .long xP, .long xW, .long xG])), (pa, .inl (g.2.1, 120, .inl u)), (da, .inl (g.2.1, 121, .inl v))]) (q0 := 0) (ci := 1) (T := TX1) (N := 2) hK hP hD hS hA hX rfl rfl) rfl rfl hl.1 rfl (lv_room (Nat.le_of_ble_eq_true rfl)) dX1_saleGain_2 ⟨Nat.le_of_ble_eq_true rfl, Nat.le_of_ble_eq_true rfl⟩) hP hD hS hA (fun E ce q9 H locs hE hP hD hS hc1 hc2 hc3 => ?_) (fun r_1 w1 H locs hq hP hD hS => ?_)
  · exact absurd hrow (hE.2 j h hj rfl)
  · obtain ⟨⟨j2, h2, hj2, ej2, hr2, rfl⟩, rfl⟩ := hq
    have hP : va_P g.1 vwCl [(ua, .inr (1, [.ref ar, .int (nI cnt)])), (ar, .inl (g.2.2.1, 6, .inr (.inr (.inr (.inr rows))))), (h, .inr (0, [.int (nI rt), .int (nI lf), .ref pa, .ref da, .int (nI T), .int (nI P), .long (lN R0), .long xI, .long xP, .long xW, .long xG])), (pa, .inl (g.2.1, 120, .inl u)), (da, .inl (g.2.1, 121, .inl v))] H := hP
    have hD : va_D A [(ua, .inr (1, [.ref ar, .int (nI cnt)])), (ar, .inl (g.2.2.1, 6, .inr (.inr (.inr (.inr rows))))), (h, .inr (0, [.int (nI rt), .int (nI lf), .ref pa, .ref da, .int (nI T), .int (nI P), .long (lN R0), .long xI, .long xP, .long xW, .long xG])), (pa, .inl (g.2.1, 120, .inl u)), (da, .inl (g.2.1, 121, .inl v))] := hD
    obtain rfl : j = j2 := (nI_eq (by omega) (by omega)).mp ej2
    obtain rfl : h = h2 := Option.some.inj (hrow.symm.trans hr2)
    refine zqs ?_
    refine lv_astore (lv' := [(4, .ref h), (0, .ref ua), (1, .int (nI j)), (2, .int x1), (3, .int x2)]) hx hb dX1_saleGain_5 hl (by decide) rfl (fun ls hl => ?_)
    refine lv_iload_n hx hb dX1_saleGain_7 rfl (lv_at hl 3 rfl) ?_
    refine lv_iconst (v := nI 0) hx hb dX1_saleGain_8 (by decide) ?_
    refine lv_ldc (v := nI 10000000) hx hb hown (hts (.constant RX1 110 (10000000)) (by decide +kernel)) dX1_saleGain_9 ?_
    refine z_axv (wa := []) (wc := []) (wb := [(ua, .inr (1, [.ref ar, .int (nI cnt)])), (ar, .inl (g.2.2.1, 6, .inr (.inr (.inr (.inr rows))))), (h, .inr (0, [.int (nI rt), .int (nI lf), .ref pa, .ref da, .int (nI T), .int (nI P), .long (lN R0), .long xI, .long xP, .long xW, .long xG])), (pa, .inl (g.2.1, 120, .inl u)), (da, .inl (g.2.1, 121, .inl v))]) (vx_runS (As := [.int x1, .int (nI 0), .int (nI 10000000)]) (rest := []) ⟨hx, hb, hml, hown, hts⟩ (c_mustBeWithin l hst g x1 (nI 0) (nI 10000000) H.size _ rfl) (va_cwS 3 hts gX1_saleGain_X1_mustBeWithin rfl rfl rfl (by decide +kernel) ⟨Nat.le_of_ble_eq_true rfl, Nat.le_of_ble_eq_true rfl⟩) (zpreXS (wa := []) (wc := []) (wb := [(ua, .inr (1, [.ref ar, .int (nI cnt)])), (ar, .inl (g.2.2.1, 6, .inr (.inr (.inr (.inr rows))))), (h, .inr (0, [.int (nI rt), .int (nI lf), .ref pa, .ref da, .int (nI T), .int (nI P), .long (lN R0), .long xI, .long xP, .long xW, .long xG])), (pa, .inl (g.2.1, 120, .inl u)), (da, .inl (g.2.1, 121, .inl v))]) hK hP hD hS hA hX) rfl rfl hl.1 rfl (lv_room (Nat.le_of_ble_eq_true rfl)) dX1_saleGain_11 ⟨Nat.le_of_ble_eq_true rfl, Nat.le_of_ble_eq_true rfl⟩) hP hD hS hA (fun E ce q9 H locs hE hP hD hS hc1 hc2 hc3 => ?_) (fun w1 H locs hq hP hD hS => ?_)
    · exact z_out hout hP hK hD hS hlocks hc1 hc2 hc3 (⟨hE.1, fun z => hE.2 z.1⟩) (Nat.le_of_ble_eq_true rfl) (Nat.le_of_ble_eq_true rfl)
    · obtain ⟨hr1, rfl⟩ := hq
      have hP : va_P g.1 vwCl [(ua, .inr (1, [.ref ar, .int (nI cnt)])), (ar, .inl (g.2.2.1, 6, .inr (.inr (.inr (.inr rows))))), (h, .inr (0, [.int (nI rt), .int (nI lf), .ref pa, .ref da, .int (nI T), .int (nI P), .long (lN R0), .long xI, .long xP, .long xW, .long xG])), (pa, .inl (g.2.1, 120, .inl u)), (da, .inl (g.2.1, 121, .inl v))] H := hP
      have hD : va_D A [(ua, .inr (1, [.ref ar, .int (nI cnt)])), (ar, .inl (g.2.2.1, 6, .inr (.inr (.inr (.inr rows))))), (h, .inr (0, [.int (nI rt), .int (nI lf), .ref pa, .ref da, .int (nI T), .int (nI P), .long (lN R0), .long xI, .long xP, .long xW, .long xG])), (pa, .inl (g.2.1, 120, .inl u)), (da, .inl (g.2.1, 121, .inl v))] := hD
      refine lv_iload_n hx hb dX1_saleGain_14 rfl (lv_at hl 4 rfl) ?_
      refine lv_iconst (v := nI 1) hx hb dX1_saleGain_15 (by decide) ?_
      refine lv_ldc (v := nI 10000000) hx hb hown (hts (.constant RX1 110 (10000000)) (by decide +kernel)) dX1_saleGain_16 ?_
      refine z_axv (wa := []) (wc := []) (wb := [(ua, .inr (1, [.ref ar, .int (nI cnt)])), (ar, .inl (g.2.2.1, 6, .inr (.inr (.inr (.inr rows))))), (h, .inr (0, [.int (nI rt), .int (nI lf), .ref pa, .ref da, .int (nI T), .int (nI P), .long (lN R0), .long xI, .long xP, .long xW, .long xG])), (pa, .inl (g.2.1, 120, .inl u)), (da, .inl (g.2.1, 121, .inl v))]) (vx_runS (As := [.int x2, .int (nI 1), .int (nI 10000000)]) (rest := []) ⟨hx, hb, hml, hown, hts⟩ (c_mustBeWithin l hst g x2 (nI 1) (nI 10000000) H.size _ rfl) (va_cwS 3 hts gX1_saleGain_X1_mustBeWithin rfl rfl rfl (by decide +kernel) ⟨Nat.le_of_ble_eq_true rfl, Nat.le_of_ble_eq_true rfl⟩) (zpreXS (wa := []) (wc := []) (wb := [(ua, .inr (1, [.ref ar, .int (nI cnt)])), (ar, .inl (g.2.2.1, 6, .inr (.inr (.inr (.inr rows))))), (h, .inr (0, [.int (nI rt), .int (nI lf), .ref pa, .ref da, .int (nI T), .int (nI P), .long (lN R0), .long xI, .long xP, .long xW, .long xG])), (pa, .inl (g.2.1, 120, .inl u)), (da, .inl (g.2.1, 121, .inl v))]) hK hP hD hS hA hX) rfl rfl hl.1 rfl (lv_room (Nat.le_of_ble_eq_true rfl)) dX1_saleGain_18 ⟨Nat.le_of_ble_eq_true rfl, Nat.le_of_ble_eq_true rfl⟩) hP hD hS hA (fun E ce q9 H locs hE hP hD hS hc1 hc2 hc3 => ?_) (fun w1 H locs hq hP hD hS => ?_)
      · exact z_out hout hP hK hD hS hlocks hc1 hc2 hc3 (⟨hE.1, fun z => hE.2 z.2⟩) (Nat.le_of_ble_eq_true rfl) (Nat.le_of_ble_eq_true rfl)
      · obtain ⟨hr2, rfl⟩ := hq
        have hP : va_P g.1 vwCl [(ua, .inr (1, [.ref ar, .int (nI cnt)])), (ar, .inl (g.2.2.1, 6, .inr (.inr (.inr (.inr rows))))), (h, .inr (0, [.int (nI rt), .int (nI lf), .ref pa, .ref da, .int (nI T), .int (nI P), .long (lN R0), .long xI, .long xP, .long xW, .long xG])), (pa, .inl (g.2.1, 120, .inl u)), (da, .inl (g.2.1, 121, .inl v))] H := hP
        have hD : va_D A [(ua, .inr (1, [.ref ar, .int (nI cnt)])), (ar, .inl (g.2.2.1, 6, .inr (.inr (.inr (.inr rows))))), (h, .inr (0, [.int (nI rt), .int (nI lf), .ref pa, .ref da, .int (nI T), .int (nI P), .long (lN R0), .long xI, .long xP, .long xW, .long xG])), (pa, .inl (g.2.1, 120, .inl u)), (da, .inl (g.2.1, 121, .inl v))] := hD
        obtain ⟨e1, h11, h12⟩ := zN_in (by decide) (by decide) hr1
        obtain ⟨e2, h21, h22⟩ := zN_in (by decide) (by decide) hr2
        have hW1 := z_wb (r := rt) (j := P) hT hp (Nat.le_refl P)
        refine lv_aload hx hb dX1_saleGain_21 (lv_at hl 0 rfl) ?_
        refine z_ai (wa := [(ua, .inr (1, [.ref ar, .int (nI cnt)])), (ar, .inl (g.2.2.1, 6, .inr (.inr (.inr (.inr rows)))))]) (wc := [(h, .inr (0, [.int (nI rt), .int (nI lf), .ref pa, .ref da, .int (nI T), .int (nI P), .long (lN R0), .long xI, .long xP, .long xW, .long xG])), (pa, .inl (g.2.1, 120, .inl u)), (da, .inl (g.2.1, 121, .inl v))]) (wb := []) (va_runV (As := []) (rest := []) ⟨hx, hb, hml, hown, hts⟩ (c_debtNow l g h pa da rt lf T P (lN R0) xI xP xW xG u v (by omega) H.size _ rfl) (cwV 0 hts gX1_saleGain_X0_debtNow rfl rfl rfl (by decide +kernel) ⟨Nat.le_of_ble_eq_true rfl, Nat.le_of_ble_eq_true rfl⟩) (zpreV (wa := [(ua, .inr (1, [.ref ar, .int (nI cnt)])), (ar, .inl (g.2.2.1, 6, .inr (.inr (.inr (.inr rows)))))]) (wc := [(h, .inr (0, [.int (nI rt), .int (nI lf), .ref pa, .ref da, .int (nI T), .int (nI P), .long (lN R0), .long xI, .long xP, .long xW, .long xG])), (pa, .inl (g.2.1, 120, .inl u)), (da, .inl (g.2.1, 121, .inl v))]) (wb := []) (q0 := 0) (ci := 0) (T := TX0) (N := 11) hK hP hD rfl rfl) rfl rfl hl.1 rfl (lv_room (Nat.le_of_ble_eq_true rfl)) dX1_saleGain_23 ⟨Nat.le_of_ble_eq_true rfl, Nat.le_of_ble_eq_true rfl⟩) hP hD hS hA (fun r_4 w1 H locs hq hP hD hS => ?_)
        obtain ⟨rfl, rfl⟩ := hq
        have hP : va_P g.1 vwCl [(ua, .inr (1, [.ref ar, .int (nI cnt)])), (ar, .inl (g.2.2.1, 6, .inr (.inr (.inr (.inr rows))))), (h, .inr (0, [.int (nI rt), .int (nI lf), .ref pa, .ref da, .int (nI T), .int (nI P), .long (lN R0), .long xI, .long xP, .long xW, .long xG])), (pa, .inl (g.2.1, 120, .inl u)), (da, .inl (g.2.1, 121, .inl v))] H := hP
        have hD : va_D A [(ua, .inr (1, [.ref ar, .int (nI cnt)])), (ar, .inl (g.2.2.1, 6, .inr (.inr (.inr (.inr rows))))), (h, .inr (0, [.int (nI rt), .int (nI lf), .ref pa, .ref da, .int (nI T), .int (nI P), .long (lN R0), .long xI, .long xP, .long xW, .long xG])), (pa, .inl (g.2.1, 120, .inl u)), (da, .inl (g.2.1, 121, .inl v))] := hD
        refine zi (y := nI (zWr rt py T (T - P))) (hv P (Nat.le_refl P) hPT) ?_
        refine z_i2l hx hb dX1_saleGain_26 (by omega) ?_
        refine lv_lstore (lv' := [(5, .long (lN (zWr rt py T (T - P)))), (4, .ref h), (0, .ref ua), (1, .int (nI j)), (2, .int x1), (3, .int x2)]) hx hb dX1_saleGain_27 hl (by decide) rfl (fun ls hl => ?_)
        refine lv_iload_n hx hb dX1_saleGain_29 rfl (lv_at hl 5 rfl) ?_
        refine zi (y := nI (zN x2)) (e2) ?_
        refine lv_iconst (v := nI 1) hx hb dX1_saleGain_30 (by decide) ?_
        refine z_icmp_lt (tgt := 42) hx hb dX1_saleGain_31 (by decide) (by omega) (by omega) (fun hc => ?_) (fun hc => ?_)
        · exact absurd hc (by omega)
        · refine lv_lload hx hb dX1_saleGain_34 (lv_at hl 0 rfl) ?_
          refine lv_iload_n hx hb dX1_saleGain_36 rfl (lv_at hl 5 rfl) ?_
          refine zi (y := nI (zN x2)) (e2) ?_
          refine z_i2l hx hb dX1_saleGain_37 (by omega) ?_
          refine z_lif_lt (tgt := 44) (pc2 := 39) hx hb dX1_saleGain_38 rfl dX1_saleGain_39 (by decide) (fun hd => ?_) (fun hd => ?_)
          · rw [pk_lLT (by omega) (by omega)] at hd
            refine lv_iload_n hx hb dX1_saleGain_44 rfl (lv_at hl 5 rfl) ?_
            refine lv_iload_n hx hb dX1_saleGain_45 rfl (lv_at hl 4 rfl) ?_
            refine lv_isub hx hb dX1_saleGain_46 ?_
            refine lv_i2l hx hb dX1_saleGain_47 rfl ?_
            refine lv_iload_n hx hb dX1_saleGain_48 rfl (lv_at hl 5 rfl) ?_
            refine zi (y := nI (zN x2)) (e2) ?_
            refine z_i2l hx hb dX1_saleGain_49 (by omega) ?_
            refine lv_lload hx hb dX1_saleGain_50 (lv_at hl 0 rfl) ?_
            refine z_lsub hx hb dX1_saleGain_52 (by omega) ?_
            refine lv_lmul hx hb dX1_saleGain_53 ?_
            refine lv_iload_n hx hb dX1_saleGain_54 rfl (lv_at hl 5 rfl) ?_
            refine zi (y := nI (zN x2)) (e2) ?_
            refine z_i2l hx hb dX1_saleGain_55 (by omega) ?_
            refine lv_ldiv hx hb dX1_saleGain_56 (fun z => absurd ((pk_lEQ (b := 0) (by omega) (by decide)).mp z) (by omega)) ?_
            refine lv_l2i hx hb dX1_saleGain_57 rfl ?_
            exact z_xiret hx hb hr hP hK hD hS dX1_saleGain_58 hlocks (⟨⟨hr1, hr2⟩, (by unfold zSale; rw [if_neg (by omega)]), rfl⟩)
          · rw [pk_lLE (by omega) (by omega)] at hd
            refine lv_iconst (v := nI 0) hx hb dX1_saleGain_42 (by decide) ?_
            exact z_xiret hx hb hr hP hK hD hS dX1_saleGain_43 hlocks (⟨⟨hr1, hr2⟩, (by unfold zSale; rw [if_pos hd]; rfl), rfl⟩)
