/-! the class Usewise: its calls on a lease that is there -/
def zN (x : Int32) : Nat := x.toInt.toNat
theorem zN_in {x : Int32} {lo hi : Nat} (hlo : lo < 2 ^ 31) (hhi : hi < 2 ^ 31) (h : nI lo ≤ x ∧ x ≤ nI hi) : x = nI (zN x) ∧ lo ≤ zN x ∧ zN x ≤ hi := by
  obtain ⟨h1, h2⟩ := h
  rw [Int32.le_iff_toInt_le, nI_toInt hlo] at h1
  rw [Int32.le_iff_toInt_le, nI_toInt hhi] at h2
  have e : x = nI (zN x) := by rw [← Int32.toInt_inj, nI_toInt (by unfold zN; omega)]; unfold zN; omega
  refine ⟨e, ?_, ?_⟩ <;> unfold zN <;> omega
theorem zN_nI {k : Nat} (h : k < 2 ^ 31) : zN (nI k) = k := by unfold zN; rw [nI_toInt h]; omega
/-- a hundred and a percent, together -/
def zA (x : Int32) : Nat := (100 + x.toInt).toNat
theorem zA_in {x : Int32} (h : (-50) ≤ x ∧ x ≤ nI 100) : nI 100 + x = nI (zA x) ∧ zA x ≤ 200 := by
  obtain ⟨h1, h2⟩ := h
  have e1 : (-50 : Int32).toInt = -50 := by decide
  have e2 : (nI 100).toInt = 100 := nI_toInt (n := 100) (by omega)
  rw [Int32.le_iff_toInt_le, e1] at h1
  rw [Int32.le_iff_toInt_le, e2] at h2
  have e : zA x = (100 + x.toInt).toNat := rfl
  refine ⟨?_, by omega⟩
  rw [← Int32.toInt_inj, fb_addI (by omega) (by omega), nI_toInt (n := zA x) (by omega), e2]
  omega
theorem zFol_T {r T' : Nat} {p' : Nat → Nat} {T P R : Nat} {p : Nat → Nat} {I Pd W G : Int32} : (zFol r T' p' (T, P, p, R, I, Pd, W, G)).1 = T' := by unfold zFol; dsimp only; split <;> rfl
theorem zFol_P {r T' : Nat} {p' : Nat → Nat} {T P R : Nat} {p : Nat → Nat} {I Pd W G : Int32} : (zFol r T' p' (T, P, p, R, I, Pd, W, G)).2.1 = P := by unfold zFol; dsimp only; split <;> rfl
theorem zFol_p {r T' : Nat} {p' : Nat → Nat} {T P R : Nat} {p : Nat → Nat} {I Pd W G : Int32} : (zFol r T' p' (T, P, p, R, I, Pd, W, G)).2.2.1 = p' := by unfold zFol; dsimp only; split <;> rfl
theorem z_le_of_lt {a b : Int32} (h : a < b) : a ≤ b := by rw [Int32.lt_iff_toInt_lt] at h; rw [Int32.le_iff_toInt_le]; omega
theorem z_lt_tr {x : Int32} {a b : Nat} (h : x < nI a) (hab : a ≤ b) (hb : b < 2 ^ 31 := by decide) : x < nI b := by rw [Int32.lt_iff_toInt_lt, nI_toInt (by omega)] at h ⊢; omega
set_option maxHeartbeats 4000000 in
set_option maxRecDepth 100000 in
theorem p_toCome (l : Launch) (hst : l.stackTraces = false) (g : zG) (ua ar cnt : Nat) (rows : Nat → Option Nat) (j : Nat) (h pa da rt lf T P R0 : Nat) (py : Nat → Nat) (I Pd Wn G : Int32) (xI xP xW xG : Int64) (u v : Nat → Int32) (hj : j < 6) (hrow : rows j = some h) (hZ : zInv rt lf (T, P, py, R0, I, Pd, Wn, G)) (hC : zCR rt (T, P, py, R0, I, Pd, Wn, G) (xI, xP, xW, xG, u, v)) : zXi l yX1_toCome wsX1_toCome ({ frames := 7, cells := 1, slots := 6, locals := 125 } : Room) [.ref ua, .int (nI j)] g [(ua, .inr (1, [.ref ar, .int (nI cnt)])), (ar, .inl (g.2.2.1, 6, .inr (.inr (.inr (.inr rows))))), (h, .inr (0, [.int (nI rt), .int (nI lf), .ref pa, .ref da, .int (nI T), .int (nI P), .long (lN R0), .long xI, .long xP, .long xW, .long xG])), (pa, .inl (g.2.1, 120, .inl u)), (da, .inl (g.2.1, 121, .inl v))] (fun q w => q = nI (T - P) ∧ w = [(ua, .inr (1, [.ref ar, .int (nI cnt)])), (ar, .inl (g.2.2.1, 6, .inr (.inr (.inr (.inr rows))))), (h, .inr (0, [.int (nI rt), .int (nI lf), .ref pa, .ref da, .int (nI T), .int (nI P), .long (lN R0), .long xI, .long xP, .long xW, .long xG])), (pa, .inl (g.2.1, 120, .inl u)), (da, .inl (g.2.1, 121, .inl v))]) (fun _ => False) 1 6 := by
  intro sz A hAe
  refine vx_ofW (cc := cX1_toCome) (maxL := 2) (ret := some .int) (by decide) rfl ?_
  intro p e s m args below meth c s₁ B hml hout hv
  obtain ⟨rfl, ⟨hsz, hP, hK, hD0⟩, hX⟩ := hv
  have hx := B.exec
  have hb := B.bytes
  have hr := B.returns
  have hts := atoms_spec (ws := wsX1_toCome) B.pre
  have hown : s.vm.findClass RX1 = some m.cls := findClass_of_methodNamed B.named
  have hlocks := B.notSynchronized
  obtain ⟨hD, hA, hS⟩ := z_in hsz hAe hD0
  have hl := lv_entry ([.ref ua, .int (nI j)]) (n := 2) (Nat.le_of_ble_eq_true rfl)
  rw [lg_entry_eq]
  generalize (lg_sl ([.ref ua, .int (nI j)]) ++ List.replicate (2 - (lg_sl ([.ref ua, .int (nI j)])).length) Slot.unset).toArray = ls at hl ⊢
  have hl : lv_has ls 2 [(0, .ref ua), (1, .int (nI j))] := hl
  have hinX0 : ∀ w ∈ wsX00, w ∈ wsX1_toCome := by decide +kernel
  have hinX1 : ∀ w ∈ wsX10, w ∈ wsX1_toCome := by decide +kernel
  obtain ⟨hT, hPT, hrt, hlf, hp, hRb⟩ := id hZ
  obtain ⟨hI, hPd, hWn, hG, hu, hv⟩ := id hC
  refine lv_aload_n hx hb dX1_toCome_0 rfl (lv_at hl 0 rfl) ?_
  refine lv_iload_n hx hb dX1_toCome_1 rfl (lv_at hl 1 rfl) ?_
  refine z_axq (wa := []) (wc := [(ua, .inr (1, [.ref ar, .int (nI cnt)])), (ar, .inl (g.2.2.1, 6, .inr (.inr (.inr (.inr rows)))))]) (wb := [(h, .inr (0, [.int (nI rt), .int (nI lf), .ref pa, .ref da, .int (nI T), .int (nI P), .long (lN R0), .long xI, .long xP, .long xW, .long xG])), (pa, .inl (g.2.1, 120, .inl u)), (da, .inl (g.2.1, 121, .inl v))]) (vx_runV (As := [.int (nI j)]) (rest := []) ⟨hx, hb, hml, hown, hts⟩ (c_leaseOf l hst g ua ar cnt rows (nI j) s.heap.size _ rfl) (cwV 1 hts gX1_toCome_X1_leaseOf rfl rfl rfl (by decide +kernel) ⟨Nat.le_of_ble_eq_true rfl, Nat.le_of_ble_eq_true rfl⟩) (zpreXV (wa := []) (wc := [(ua, .inr (1, [.ref ar, .int (nI cnt)])), (ar, .inl (g.2.2.1, 6, .inr (.inr (.inr (.inr rows)))))]) (wb := [(h, .inr (0, [.int (nI rt), .int (nI lf), .ref pa, .ref da, .int (nI T), .int (nI P), .long (lN R0), .long xI, .long xP, .long xW, .long xG])), (pa, .inl (g.2.1, 120, .inl u)), (da, .inl (g.2.1, 121, .inl v))]) (q0 := 0) (ci := 1) (T := TX1) (N := 2) hK hP hD hS hA hX rfl rfl) rfl rfl hl.1 rfl (lv_room (Nat.le_of_ble_eq_true rfl)) dX1_toCome_2 ⟨Nat.le_of_ble_eq_true rfl, Nat.le_of_ble_eq_true rfl⟩) hP hD hS hA (fun E ce q9 H locs hE hP hD hS hc1 hc2 hc3 => ?_) (fun r_1 w1 H locs hq hP hD hS => ?_)
  · exact absurd hrow (hE.2 j h hj rfl)
  · obtain ⟨⟨j2, h2, hj2, ej2, hr2, rfl⟩, rfl⟩ := hq
    have hP : va_P g.1 vwCl [(ua, .inr (1, [.ref ar, .int (nI cnt)])), (ar, .inl (g.2.2.1, 6, .inr (.inr (.inr (.inr rows))))), (h, .inr (0, [.int (nI rt), .int (nI lf), .ref pa, .ref da, .int (nI T), .int (nI P), .long (lN R0), .long xI, .long xP, .long xW, .long xG])), (pa, .inl (g.2.1, 120, .inl u)), (da, .inl (g.2.1, 121, .inl v))] H := hP
    have hD : va_D A [(ua, .inr (1, [.ref ar, .int (nI cnt)])), (ar, .inl (g.2.2.1, 6, .inr (.inr (.inr (.inr rows))))), (h, .inr (0, [.int (nI rt), .int (nI lf), .ref pa, .ref da, .int (nI T), .int (nI P), .long (lN R0), .long xI, .long xP, .long xW, .long xG])), (pa, .inl (g.2.1, 120, .inl u)), (da, .inl (g.2.1, 121, .inl v))] := hD
    obtain rfl : j = j2 := (nI_eq (by omega) (by omega)).mp ej2
    obtain rfl : h = h2 := Option.some.inj (hrow.symm.trans hr2)
    refine zqs ?_
    refine z_ai (wa := [(ua, .inr (1, [.ref ar, .int (nI cnt)])), (ar, .inl (g.2.2.1, 6, .inr (.inr (.inr (.inr rows)))))]) (wc := [(h, .inr (0, [.int (nI rt), .int (nI lf), .ref pa, .ref da, .int (nI T), .int (nI P), .long (lN R0), .long xI, .long xP, .long xW, .long xG])), (pa, .inl (g.2.1, 120, .inl u)), (da, .inl (g.2.1, 121, .inl v))]) (wb := []) (va_runV (As := []) (rest := []) ⟨hx, hb, hml, hown, hts⟩ (c_monthsLeft l g h pa da rt lf T P (lN R0) xI xP xW xG u v hPT H.size _ rfl) (cwV 0 hts gX1_toCome_X0_monthsLeft rfl rfl rfl (by decide +kernel) ⟨Nat.le_of_ble_eq_true rfl, Nat.le_of_ble_eq_true rfl⟩) (zpreV (wa := [(ua, .inr (1, [.ref ar, .int (nI cnt)])), (ar, .inl (g.2.2.1, 6, .inr (.inr (.inr (.inr rows)))))]) (wc := [(h, .inr (0, [.int (nI rt), .int (nI lf), .ref pa, .ref da, .int (nI T), .int (nI P), .long (lN R0), .long xI, .long xP, .long xW, .long xG])), (pa, .inl (g.2.1, 120, .inl u)), (da, .inl (g.2.1, 121, .inl v))]) (wb := []) (q0 := 0) (ci := 0) (T := TX0) (N := 11) hK hP hD rfl rfl) rfl rfl hl.1 rfl (lv_room (Nat.le_of_ble_eq_true rfl)) dX1_toCome_5 ⟨Nat.le_of_ble_eq_true rfl, Nat.le_of_ble_eq_true rfl⟩) hP hD hS hA (fun r_2 w1 H locs hq hP hD hS => ?_)
    obtain ⟨rfl, rfl⟩ := hq
    have hP : va_P g.1 vwCl [(ua, .inr (1, [.ref ar, .int (nI cnt)])), (ar, .inl (g.2.2.1, 6, .inr (.inr (.inr (.inr rows))))), (h, .inr (0, [.int (nI rt), .int (nI lf), .ref pa, .ref da, .int (nI T), .int (nI P), .long (lN R0), .long xI, .long xP, .long xW, .long xG])), (pa, .inl (g.2.1, 120, .inl u)), (da, .inl (g.2.1, 121, .inl v))] H := hP
    have hD : va_D A [(ua, .inr (1, [.ref ar, .int (nI cnt)])), (ar, .inl (g.2.2.1, 6, .inr (.inr (.inr (.inr rows))))), (h, .inr (0, [.int (nI rt), .int (nI lf), .ref pa, .ref da, .int (nI T), .int (nI P), .long (lN R0), .long xI, .long xP, .long xW, .long xG])), (pa, .inl (g.2.1, 120, .inl u)), (da, .inl (g.2.1, 121, .inl v))] := hD
    exact z_xiret hx hb hr hP hK hD hS dX1_toCome_8 hlocks (⟨rfl, rfl⟩)

set_option maxHeartbeats 4000000 in
set_option maxRecDepth 100000 in
theorem p_debt (l : Launch) (hst : l.stackTraces = false) (g : zG) (ua ar cnt : Nat) (rows : Nat → Option Nat) (j : Nat) (h pa da rt lf T P R0 : Nat) (py : Nat → Nat) (I Pd Wn G : Int32) (xI xP xW xG : Int64) (u v : Nat → Int32) (hj : j < 6) (hrow : rows j = some h) (hZ : zInv rt lf (T, P, py, R0, I, Pd, Wn, G)) (hC : zCR rt (T, P, py, R0, I, Pd, Wn, G) (xI, xP, xW, xG, u, v)) : zXi l yX1_debt wsX1_debt ({ frames := 7, cells := 1, slots := 6, locals := 125 } : Room) [.ref ua, .int (nI j)] g [(ua, .inr (1, [.ref ar, .int (nI cnt)])), (ar, .inl (g.2.2.1, 6, .inr (.inr (.inr (.inr rows))))), (h, .inr (0, [.int (nI rt), .int (nI lf), .ref pa, .ref da, .int (nI T), .int (nI P), .long (lN R0), .long xI, .long xP, .long xW, .long xG])), (pa, .inl (g.2.1, 120, .inl u)), (da, .inl (g.2.1, 121, .inl v))] (fun q w => q = nI (zWr rt py T (T - P)) ∧ w = [(ua, .inr (1, [.ref ar, .int (nI cnt)])), (ar, .inl (g.2.2.1, 6, .inr (.inr (.inr (.inr rows))))), (h, .inr (0, [.int (nI rt), .int (nI lf), .ref pa, .ref da, .int (nI T), .int (nI P), .long (lN R0), .long xI, .long xP, .long xW, .long xG])), (pa, .inl (g.2.1, 120, .inl u)), (da, .inl (g.2.1, 121, .inl v))]) (fun _ => False) 1 6 := by
  intro sz A hAe
  refine vx_ofW (cc := cX1_debt) (maxL := 2) (ret := some .int) (by decide) rfl ?_
  intro p e s m args below meth c s₁ B hml hout hv
  obtain ⟨rfl, ⟨hsz, hP, hK, hD0⟩, hX⟩ := hv
  have hx := B.exec
  have hb := B.bytes
  have hr := B.returns
  have hts := atoms_spec (ws := wsX1_debt) B.pre
  have hown : s.vm.findClass RX1 = some m.cls := findClass_of_methodNamed B.named
  have hlocks := B.notSynchronized
  obtain ⟨hD, hA, hS⟩ := z_in hsz hAe hD0
  have hl := lv_entry ([.ref ua, .int (nI j)]) (n := 2) (Nat.le_of_ble_eq_true rfl)
  rw [lg_entry_eq]
  generalize (lg_sl ([.ref ua, .int (nI j)]) ++ List.replicate (2 - (lg_sl ([.ref ua, .int (nI j)])).length) Slot.unset).toArray = ls at hl ⊢
  have hl : lv_has ls 2 [(0, .ref ua), (1, .int (nI j))] := hl
  have hinX0 : ∀ w ∈ wsX00, w ∈ wsX1_debt := by decide +kernel
  have hinX1 : ∀ w ∈ wsX10, w ∈ wsX1_debt := by decide +kernel
  obtain ⟨hT, hPT, hrt, hlf, hp, hRb⟩ := id hZ
  obtain ⟨hI, hPd, hWn, hG, hu, hv⟩ := id hC
  refine lv_aload_n hx hb dX1_debt_0 rfl (lv_at hl 0 rfl) ?_
  refine lv_iload_n hx hb dX1_debt_1 rfl (lv_at hl 1 rfl) ?_
  refine z_axq (wa := []) (wc := [(ua, .inr (1, [.ref ar, .int (nI cnt)])), (ar, .inl (g.2.2.1, 6, .inr (.inr (.inr (.inr rows)))))]) (wb := [(h, .inr (0, [.int (nI rt), .int (nI lf), .ref pa, .ref da, .int (nI T), .int (nI P), .long (lN R0), .long xI, .long xP, .long xW, .long xG])), (pa, .inl (g.2.1, 120, .inl u)), (da, .inl (g.2.1, 121, .inl v))]) (vx_runV (As := [.int (nI j)]) (rest := []) ⟨hx, hb, hml, hown, hts⟩ (c_leaseOf l hst g ua ar cnt rows (nI j) s.heap.size _ rfl) (cwV 1 hts gX1_debt_X1_leaseOf rfl rfl rfl (by decide +kernel) ⟨Nat.le_of_ble_eq_true rfl, Nat.le_of_ble_eq_true rfl⟩) (zpreXV (wa := []) (wc := [(ua, .inr (1, [.ref ar, .int (nI cnt)])), (ar, .inl (g.2.2.1, 6, .inr (.inr (.inr (.inr rows)))))]) (wb := [(h, .inr (0, [.int (nI rt), .int (nI lf), .ref pa, .ref da, .int (nI T), .int (nI P), .long (lN R0), .long xI, .long xP, .long xW, .long xG])), (pa, .inl (g.2.1, 120, .inl u)), (da, .inl (g.2.1, 121, .inl v))]) (q0 := 0) (ci := 1) (T := TX1) (N := 2) hK hP hD hS hA hX rfl rfl) rfl rfl hl.1 rfl (lv_room (Nat.le_of_ble_eq_true rfl)) dX1_debt_2 ⟨Nat.le_of_ble_eq_true rfl, Nat.le_of_ble_eq_true rfl⟩) hP hD hS hA (fun E ce q9 H locs hE hP hD hS hc1 hc2 hc3 => ?_) (fun r_1 w1 H locs hq hP hD hS => ?_)
  · exact absurd hrow (hE.2 j h hj rfl)
  · obtain ⟨⟨j2, h2, hj2, ej2, hr2, rfl⟩, rfl⟩ := hq
    have hP : va_P g.1 vwCl [(ua, .inr (1, [.ref ar, .int (nI cnt)])), (ar, .inl (g.2.2.1, 6, .inr (.inr (.inr (.inr rows))))), (h, .inr (0, [.int (nI rt), .int (nI lf), .ref pa, .ref da, .int (nI T), .int (nI P), .long (lN R0), .long xI, .long xP, .long xW, .long xG])), (pa, .inl (g.2.1, 120, .inl u)), (da, .inl (g.2.1, 121, .inl v))] H := hP
    have hD : va_D A [(ua, .inr (1, [.ref ar, .int (nI cnt)])), (ar, .inl (g.2.2.1, 6, .inr (.inr (.inr (.inr rows))))), (h, .inr (0, [.int (nI rt), .int (nI lf), .ref pa, .ref da, .int (nI T), .int (nI P), .long (lN R0), .long xI, .long xP, .long xW, .long xG])), (pa, .inl (g.2.1, 120, .inl u)), (da, .inl (g.2.1, 121, .inl v))] := hD
    obtain rfl : j = j2 := (nI_eq (by omega) (by omega)).mp ej2
    obtain rfl : h = h2 := Option.some.inj (hrow.symm.trans hr2)
    refine zqs ?_
    refine z_ai (wa := [(ua, .inr (1, [.ref ar, .int (nI cnt)])), (ar, .inl (g.2.2.1, 6, .inr (.inr (.inr (.inr rows)))))]) (wc := [(h, .inr (0, [.int (nI rt), .int (nI lf), .ref pa, .ref da, .int (nI T), .int (nI P), .long (lN R0), .long xI, .long xP, .long xW, .long xG])), (pa, .inl (g.2.1, 120, .inl u)), (da, .inl (g.2.1, 121, .inl v))]) (wb := []) (va_runV (As := []) (rest := []) ⟨hx, hb, hml, hown, hts⟩ (c_debtNow l g h pa da rt lf T P (lN R0) xI xP xW xG u v (by omega) H.size _ rfl) (cwV 0 hts gX1_debt_X0_debtNow rfl rfl rfl (by decide +kernel) ⟨Nat.le_of_ble_eq_true rfl, Nat.le_of_ble_eq_true rfl⟩) (zpreV (wa := [(ua, .inr (1, [.ref ar, .int (nI cnt)])), (ar, .inl (g.2.2.1, 6, .inr (.inr (.inr (.inr rows)))))]) (wc := [(h, .inr (0, [.int (nI rt), .int (nI lf), .ref pa, .ref da, .int (nI T), .int (nI P), .long (lN R0), .long xI, .long xP, .long xW, .long xG])), (pa, .inl (g.2.1, 120, .inl u)), (da, .inl (g.2.1, 121, .inl v))]) (wb := []) (q0 := 0) (ci := 0) (T := TX0) (N := 11) hK hP hD rfl rfl) rfl rfl hl.1 rfl (lv_room (Nat.le_of_ble_eq_true rfl)) dX1_debt_5 ⟨Nat.le_of_ble_eq_true rfl, Nat.le_of_ble_eq_true rfl⟩) hP hD hS hA (fun r_2 w1 H locs hq hP hD hS => ?_)
    obtain ⟨rfl, rfl⟩ := hq
    have hP : va_P g.1 vwCl [(ua, .inr (1, [.ref ar, .int (nI cnt)])), (ar, .inl (g.2.2.1, 6, .inr (.inr (.inr (.inr rows))))), (h, .inr (0, [.int (nI rt), .int (nI lf), .ref pa, .ref da, .int (nI T), .int (nI P), .long (lN R0), .long xI, .long xP, .long xW, .long xG])), (pa, .inl (g.2.1, 120, .inl u)), (da, .inl (g.2.1, 121, .inl v))] H := hP
    have hD : va_D A [(ua, .inr (1, [.ref ar, .int (nI cnt)])), (ar, .inl (g.2.2.1, 6, .inr (.inr (.inr (.inr rows))))), (h, .inr (0, [.int (nI rt), .int (nI lf), .ref pa, .ref da, .int (nI T), .int (nI P), .long (lN R0), .long xI, .long xP, .long xW, .long xG])), (pa, .inl (g.2.1, 120, .inl u)), (da, .inl (g.2.1, 121, .inl v))] := hD
    refine zi (y := nI (zWr rt py T (T - P))) (hv P (Nat.le_refl P) hPT) ?_
    exact z_xiret hx hb hr hP hK hD hS dX1_debt_8 hlocks (⟨rfl, rfl⟩)

set_option maxHeartbeats 4000000 in
set_option maxRecDepth 100000 in
theorem p_debtByWorth (l : Launch) (hst : l.stackTraces = false) (g : zG) (ua ar cnt : Nat) (rows : Nat → Option Nat) (j : Nat) (h pa da rt lf T P R0 : Nat) (py : Nat → Nat) (I Pd Wn G : Int32) (xI xP xW xG : Int64) (u v : Nat → Int32) (hj : j < 6) (hrow : rows j = some h) (hZ : zInv rt lf (T, P, py, R0, I, Pd, Wn, G)) (hC : zCR rt (T, P, py, R0, I, Pd, Wn, G) (xI, xP, xW, xG, u, v)) : zXi l yX1_debtByWorth wsX1_debtByWorth ({ frames := 7, cells := 1, slots := 6, locals := 125 } : Room) [.ref ua, .int (nI j)] g [(ua, .inr (1, [.ref ar, .int (nI cnt)])), (ar, .inl (g.2.2.1, 6, .inr (.inr (.inr (.inr rows))))), (h, .inr (0, [.int (nI rt), .int (nI lf), .ref pa, .ref da, .int (nI T), .int (nI P), .long (lN R0), .long xI, .long xP, .long xW, .long xG])), (pa, .inl (g.2.1, 120, .inl u)), (da, .inl (g.2.1, 121, .inl v))] (fun q w => q = nI (zWr rt py T (T - P)) ∧ w = [(ua, .inr (1, [.ref ar, .int (nI cnt)])), (ar, .inl (g.2.2.1, 6, .inr (.inr (.inr (.inr rows))))), (h, .inr (0, [.int (nI rt), .int (nI lf), .ref pa, .ref da, .int (nI T), .int (nI P), .long (lN R0), .long xI, .long xP, .long xW, .long xG])), (pa, .inl (g.2.1, 120, .inl u)), (da, .inl (g.2.1, 121, .inl v))]) (fun _ => False) 1 6 := by
  intro sz A hAe
  refine vx_ofW (cc := cX1_debtByWorth) (maxL := 3) (ret := some .int) (by decide) rfl ?_
  intro p e s m args below meth c s₁ B hml hout hv
  obtain ⟨rfl, ⟨hsz, hP, hK, hD0⟩, hX⟩ := hv
  have hx := B.exec
  have hb := B.bytes
  have hr := B.returns
  have hts := atoms_spec (ws := wsX1_debtByWorth) B.pre
  have hown : s.vm.findClass RX1 = some m.cls := findClass_of_methodNamed B.named
  have hlocks := B.notSynchronized
  obtain ⟨hD, hA, hS⟩ := z_in hsz hAe hD0
  have hl := lv_entry ([.ref ua, .int (nI j)]) (n := 3) (Nat.le_of_ble_eq_true rfl)
  rw [lg_entry_eq]
  generalize (lg_sl ([.ref ua, .int (nI j)]) ++ List.replicate (3 - (lg_sl ([.ref ua, .int (nI j)])).length) Slot.unset).toArray = ls at hl ⊢
  have hl : lv_has ls 3 [(0, .ref ua), (1, .int (nI j))] := hl
  have hinX0 : ∀ w ∈ wsX00, w ∈ wsX1_debtByWorth := by decide +kernel
  have hinX1 : ∀ w ∈ wsX10, w ∈ wsX1_debtByWorth := by decide +kernel
  obtain ⟨hT, hPT, hrt, hlf, hp, hRb⟩ := id hZ
  obtain ⟨hI, hPd, hWn, hG, hu, hv⟩ := id hC
  refine lv_aload_n hx hb dX1_debtByWorth_0 rfl (lv_at hl 0 rfl) ?_
  refine lv_iload_n hx hb dX1_debtByWorth_1 rfl (lv_at hl 1 rfl) ?_
  refine z_axq (wa := []) (wc := [(ua, .inr (1, [.ref ar, .int (nI cnt)])), (ar, .inl (g.2.2.1, 6, .inr (.inr (.inr (.inr rows)))))]) (wb := [(h, .inr (0, [.int (nI rt), .int (nI lf), .ref pa, .ref da, .int (nI T), .int (nI P), .long (lN R0), .long xI, .long xP, .long xW, .long xG])), (pa, .inl (g.2.1, 120, .inl u)), (da, .inl (g.2.1, 121, .inl v))]) (vx_runV (As := [.int (nI j)]) (rest := []) ⟨hx, hb, hml, hown, hts⟩ (c_leaseOf l hst g ua ar cnt rows (nI j) s.heap.size _ rfl) (cwV 1 hts gX1_debtByWorth_X1_leaseOf rfl rfl rfl (by decide +kernel) ⟨Nat.le_of_ble_eq_true rfl, Nat.le_of_ble_eq_true rfl⟩) (zpreXV (wa := []) (wc := [(ua, .inr (1, [.ref ar, .int (nI cnt)])), (ar, .inl (g.2.2.1, 6, .inr (.inr (.inr (.inr rows)))))]) (wb := [(h, .inr (0, [.int (nI rt), .int (nI lf), .ref pa, .ref da, .int (nI T), .int (nI P), .long (lN R0), .long xI, .long xP, .long xW, .long xG])), (pa, .inl (g.2.1, 120, .inl u)), (da, .inl (g.2.1, 121, .inl v))]) (q0 := 0) (ci := 1) (T := TX1) (N := 2) hK hP hD hS hA hX rfl rfl) rfl rfl hl.1 rfl (lv_room (Nat.le_of_ble_eq_true rfl)) dX1_debtByWorth_2 ⟨Nat.le_of_ble_eq_true rfl, Nat.le_of_ble_eq_true rfl⟩) hP hD hS hA (fun E ce q9 H locs hE hP hD hS hc1 hc2 hc3 => ?_) (fun r_1 w1 H locs hq hP hD hS => ?_)
  · exact absurd hrow (hE.2 j h hj rfl)
  · obtain ⟨⟨j2, h2, hj2, ej2, hr2, rfl⟩, rfl⟩ := hq
    have hP : va_P g.1 vwCl [(ua, .inr (1, [.ref ar, .int (nI cnt)])), (ar, .inl (g.2.2.1, 6, .inr (.inr (.inr (.inr rows))))), (h, .inr (0, [.int (nI rt), .int (nI lf), .ref pa, .ref da, .int (nI T), .int (nI P), .long (lN R0), .long xI, .long xP, .long xW, .long xG])), (pa, .inl (g.2.1, 120, .inl u)), (da, .inl (g.2.1, 121, .inl v))] H := hP
    have hD : va_D A [(ua, .inr (1, [.ref ar, .int (nI cnt)])), (ar, .inl (g.2.2.1, 6, .inr (.inr (.inr (.inr rows))))), (h, .inr (0, [.int (nI rt), .int (nI lf), .ref pa, .ref da, .int (nI T), .int (nI P), .long (lN R0), .long xI, .long xP, .long xW, .long xG])), (pa, .inl (g.2.1, 120, .inl u)), (da, .inl (g.2.1, 121, .inl v))] := hD
    obtain rfl : j = j2 := (nI_eq (by omega) (by omega)).mp ej2
    obtain rfl : h = h2 := Option.some.inj (hrow.symm.trans hr2)
    refine zqs ?_
    refine lv_astore_n (lv' := [(2, .ref h), (0, .ref ua), (1, .int (nI j))]) hx hb dX1_debtByWorth_5 rfl hl (by decide) rfl (fun ls hl => ?_)
    refine lv_aload_n hx hb dX1_debtByWorth_6 rfl (lv_at hl 0 rfl) ?_
    refine lv_aload_n hx hb dX1_debtByWorth_7 rfl (lv_at hl 0 rfl) ?_
    refine va_getN (D := g.1) (ci := 0) (v := .int (nI rt)) (own := "Usewise") (ref := "Usewise$Lease") (host := "Usewise") (index := 87) (C := RX0) (T := TX0) (N := 11) hx hb hts hinX0 hown hK hP 2 rfl rfl 0 (by decide) (va_Nw.use rfl (hX.2.2.1 (.fieldLinkNest "Usewise" 87 "Usewise$Lease" "rate" "I" "Usewise") (by decide +kernel))) (fun _ h9 => h9) rfl dX1_debtByWorth_8 ?_
    refine z_al (wa := [(ua, .inr (1, [.ref ar, .int (nI cnt)])), (ar, .inl (g.2.2.1, 6, .inr (.inr (.inr (.inr rows)))))]) (wc := [(h, .inr (0, [.int (nI rt), .int (nI lf), .ref pa, .ref da, .int (nI T), .int (nI P), .long (lN R0), .long xI, .long xP, .long xW, .long xG])), (pa, .inl (g.2.1, 120, .inl u)), (da, .inl (g.2.1, 121, .inl v))]) (wb := []) (va_runV (As := [.int (nI rt)]) (rest := []) ⟨hx, hb, hml, hown, hts⟩ (c_worthAt l g h pa da rt lf T P (lN R0) xI xP xW xG u v py rt hT hPT hp hu hrt H.size _ rfl) (cwV 1 hts gX1_debtByWorth_X0_worthAt rfl rfl rfl (by decide +kernel) ⟨Nat.le_of_ble_eq_true rfl, Nat.le_of_ble_eq_true rfl⟩) (zpreV (wa := [(ua, .inr (1, [.ref ar, .int (nI cnt)])), (ar, .inl (g.2.2.1, 6, .inr (.inr (.inr (.inr rows)))))]) (wc := [(h, .inr (0, [.int (nI rt), .int (nI lf), .ref pa, .ref da, .int (nI T), .int (nI P), .long (lN R0), .long xI, .long xP, .long xW, .long xG])), (pa, .inl (g.2.1, 120, .inl u)), (da, .inl (g.2.1, 121, .inl v))]) (wb := []) (q0 := 0) (ci := 0) (T := TX0) (N := 11) hK hP hD rfl rfl) rfl rfl hl.1 rfl (lv_room (Nat.le_of_ble_eq_true rfl)) dX1_debtByWorth_11 ⟨Nat.le_of_ble_eq_true rfl, Nat.le_of_ble_eq_true rfl⟩) hP hD hS hA (fun r_2 w1 H locs hq hP hD hS => ?_)
    obtain ⟨rfl, rfl⟩ := hq
    have hP : va_P g.1 vwCl [(ua, .inr (1, [.ref ar, .int (nI cnt)])), (ar, .inl (g.2.2.1, 6, .inr (.inr (.inr (.inr rows))))), (h, .inr (0, [.int (nI rt), .int (nI lf), .ref pa, .ref da, .int (nI T), .int (nI P), .long (lN R0), .long xI, .long xP, .long xW, .long xG])), (pa, .inl (g.2.1, 120, .inl u)), (da, .inl (g.2.1, 121, .inl v))] H := hP
    have hD : va_D A [(ua, .inr (1, [.ref ar, .int (nI cnt)])), (ar, .inl (g.2.2.1, 6, .inr (.inr (.inr (.inr rows))))), (h, .inr (0, [.int (nI rt), .int (nI lf), .ref pa, .ref da, .int (nI T), .int (nI P), .long (lN R0), .long xI, .long xP, .long xW, .long xG])), (pa, .inl (g.2.1, 120, .inl u)), (da, .inl (g.2.1, 121, .inl v))] := hD
    refine z_l2i hx hb dX1_debtByWorth_14 ?_
    exact z_xiret hx hb hr hP hK hD hS dX1_debtByWorth_15 hlocks (⟨rfl, rfl⟩)

set_option maxHeartbeats 4000000 in
set_option maxRecDepth 100000 in
theorem p_right (l : Launch) (hst : l.stackTraces = false) (g : zG) (ua ar cnt : Nat) (rows : Nat → Option Nat) (j : Nat) (h pa da rt lf T P R0 : Nat) (py : Nat → Nat) (I Pd Wn G : Int32) (xI xP xW xG : Int64) (u v : Nat → Int32) (hj : j < 6) (hrow : rows j = some h) (hZ : zInv rt lf (T, P, py, R0, I, Pd, Wn, G)) (hC : zCR rt (T, P, py, R0, I, Pd, Wn, G) (xI, xP, xW, xG, u, v)) : zXi l yX1_right wsX1_right ({ frames := 7, cells := 1, slots := 6, locals := 125 } : Room) [.ref ua, .int (nI j)] g [(ua, .inr (1, [.ref ar, .int (nI cnt)])), (ar, .inl (g.2.2.1, 6, .inr (.inr (.inr (.inr rows))))), (h, .inr (0, [.int (nI rt), .int (nI lf), .ref pa, .ref da, .int (nI T), .int (nI P), .long (lN R0), .long xI, .long xP, .long xW, .long xG])), (pa, .inl (g.2.1, 120, .inl u)), (da, .inl (g.2.1, 121, .inl v))] (fun q w => q = nI R0 ∧ w = [(ua, .inr (1, [.ref ar, .int (nI cnt)])), (ar, .inl (g.2.2.1, 6, .inr (.inr (.inr (.inr rows))))), (h, .inr (0, [.int (nI rt), .int (nI lf), .ref pa, .ref da, .int (nI T), .int (nI P), .long (lN R0), .long xI, .long xP, .long xW, .long xG])), (pa, .inl (g.2.1, 120, .inl u)), (da, .inl (g.2.1, 121, .inl v))]) (fun _ => False) 1 6 := by
  intro sz A hAe
  refine vx_ofW (cc := cX1_right) (maxL := 2) (ret := some .int) (by decide) rfl ?_
  intro p e s m args below meth c s₁ B hml hout hv
  obtain ⟨rfl, ⟨hsz, hP, hK, hD0⟩, hX⟩ := hv
  have hx := B.exec
  have hb := B.bytes
  have hr := B.returns
  have hts := atoms_spec (ws := wsX1_right) B.pre
  have hown : s.vm.findClass RX1 = some m.cls := findClass_of_methodNamed B.named
  have hlocks := B.notSynchronized
  obtain ⟨hD, hA, hS⟩ := z_in hsz hAe hD0
  have hl := lv_entry ([.ref ua, .int (nI j)]) (n := 2) (Nat.le_of_ble_eq_true rfl)
  rw [lg_entry_eq]
  generalize (lg_sl ([.ref ua, .int (nI j)]) ++ List.replicate (2 - (lg_sl ([.ref ua, .int (nI j)])).length) Slot.unset).toArray = ls at hl ⊢
  have hl : lv_has ls 2 [(0, .ref ua), (1, .int (nI j))] := hl
  have hinX0 : ∀ w ∈ wsX00, w ∈ wsX1_right := by decide +kernel
  have hinX1 : ∀ w ∈ wsX10, w ∈ wsX1_right := by decide +kernel
  obtain ⟨hT, hPT, hrt, hlf, hp, hRb⟩ := id hZ
  obtain ⟨hI, hPd, hWn, hG, hu, hv⟩ := id hC
  refine lv_aload_n hx hb dX1_right_0 rfl (lv_at hl 0 rfl) ?_
  refine lv_iload_n hx hb dX1_right_1 rfl (lv_at hl 1 rfl) ?_
  refine z_axq (wa := []) (wc := [(ua, .inr (1, [.ref ar, .int (nI cnt)])), (ar, .inl (g.2.2.1, 6, .inr (.inr (.inr (.inr rows)))))]) (wb := [(h, .inr (0, [.int (nI rt), .int (nI lf), .ref pa, .ref da, .int (nI T), .int (nI P), .long (lN R0), .long xI, .long xP, .long xW, .long xG])), (pa, .inl (g.2.1, 120, .inl u)), (da, .inl (g.2.1, 121, .inl v))]) (vx_runV (As := [.int (nI j)]) (rest := []) ⟨hx, hb, hml, hown, hts⟩ (c_leaseOf l hst g ua ar cnt rows (nI j) s.heap.size _ rfl) (cwV 1 hts gX1_right_X1_leaseOf rfl rfl rfl (by decide +kernel) ⟨Nat.le_of_ble_eq_true rfl, Nat.le_of_ble_eq_true rfl⟩) (zpreXV (wa := []) (wc := [(ua, .inr (1, [.ref ar, .int (nI cnt)])), (ar, .inl (g.2.2.1, 6, .inr (.inr (.inr (.inr rows)))))]) (wb := [(h, .inr (0, [.int (nI rt), .int (nI lf), .ref pa, .ref da, .int (nI T), .int (nI P), .long (lN R0), .long xI, .long xP, .long xW, .long xG])), (pa, .inl (g.2.1, 120, .inl u)), (da, .inl (g.2.1, 121, .inl v))]) (q0 := 0) (ci := 1) (T := TX1) (N := 2) hK hP hD hS hA hX rfl rfl) rfl rfl hl.1 rfl (lv_room (Nat.le_of_ble_eq_true rfl)) dX1_right_2 ⟨Nat.le_of_ble_eq_true rfl, Nat.le_of_ble_eq_true rfl⟩) hP hD hS hA (fun E ce q9 H locs hE hP hD hS hc1 hc2 hc3 => ?_) (fun r_1 w1 H locs hq hP hD hS => ?_)
  · exact absurd hrow (hE.2 j h hj rfl)
  · obtain ⟨⟨j2, h2, hj2, ej2, hr2, rfl⟩, rfl⟩ := hq
    have hP : va_P g.1 vwCl [(ua, .inr (1, [.ref ar, .int (nI cnt)])), (ar, .inl (g.2.2.1, 6, .inr (.inr (.inr (.inr rows))))), (h, .inr (0, [.int (nI rt), .int (nI lf), .ref pa, .ref da, .int (nI T), .int (nI P), .long (lN R0), .long xI, .long xP, .long xW, .long xG])), (pa, .inl (g.2.1, 120, .inl u)), (da, .inl (g.2.1, 121, .inl v))] H := hP
    have hD : va_D A [(ua, .inr (1, [.ref ar, .int (nI cnt)])), (ar, .inl (g.2.2.1, 6, .inr (.inr (.inr (.inr rows))))), (h, .inr (0, [.int (nI rt), .int (nI lf), .ref pa, .ref da, .int (nI T), .int (nI P), .long (lN R0), .long xI, .long xP, .long xW, .long xG])), (pa, .inl (g.2.1, 120, .inl u)), (da, .inl (g.2.1, 121, .inl v))] := hD
    obtain rfl : j = j2 := (nI_eq (by omega) (by omega)).mp ej2
    obtain rfl : h = h2 := Option.some.inj (hrow.symm.trans hr2)
    refine zqs ?_
    refine va_getN (D := g.1) (ci := 0) (v := .long (lN R0)) (own := "Usewise") (ref := "Usewise$Lease") (host := "Usewise") (index := 94) (C := RX0) (T := TX0) (N := 11) hx hb hts hinX0 hown hK hP 2 rfl rfl 6 (by decide) (va_Nw.use rfl (hX.2.2.1 (.fieldLinkNest "Usewise" 94 "Usewise$Lease" "right" "J" "Usewise") (by decide +kernel))) (fun _ h9 => h9) rfl dX1_right_5 ?_
    refine z_l2i hx hb dX1_right_8 ?_
    exact z_xiret hx hb hr hP hK hD hS dX1_right_9 hlocks (⟨rfl, rfl⟩)

set_option maxHeartbeats 4000000 in
set_option maxRecDepth 100000 in
theorem p_interest (l : Launch) (hst : l.stackTraces = false) (g : zG) (ua ar cnt : Nat) (rows : Nat → Option Nat) (j : Nat) (h pa da rt lf T P R0 : Nat) (py : Nat → Nat) (I Pd Wn G : Int32) (xI xP xW xG : Int64) (u v : Nat → Int32) (hj : j < 6) (hrow : rows j = some h) (hZ : zInv rt lf (T, P, py, R0, I, Pd, Wn, G)) (hC : zCR rt (T, P, py, R0, I, Pd, Wn, G) (xI, xP, xW, xG, u, v)) : zXi l yX1_interest wsX1_interest ({ frames := 7, cells := 1, slots := 6, locals := 125 } : Room) [.ref ua, .int (nI j)] g [(ua, .inr (1, [.ref ar, .int (nI cnt)])), (ar, .inl (g.2.2.1, 6, .inr (.inr (.inr (.inr rows))))), (h, .inr (0, [.int (nI rt), .int (nI lf), .ref pa, .ref da, .int (nI T), .int (nI P), .long (lN R0), .long xI, .long xP, .long xW, .long xG])), (pa, .inl (g.2.1, 120, .inl u)), (da, .inl (g.2.1, 121, .inl v))] (fun q w => q = I ∧ w = [(ua, .inr (1, [.ref ar, .int (nI cnt)])), (ar, .inl (g.2.2.1, 6, .inr (.inr (.inr (.inr rows))))), (h, .inr (0, [.int (nI rt), .int (nI lf), .ref pa, .ref da, .int (nI T), .int (nI P), .long (lN R0), .long xI, .long xP, .long xW, .long xG])), (pa, .inl (g.2.1, 120, .inl u)), (da, .inl (g.2.1, 121, .inl v))]) (fun _ => False) 1 6 := by
  intro sz A hAe
  refine vx_ofW (cc := cX1_interest) (maxL := 2) (ret := some .int) (by decide) rfl ?_
  intro p e s m args below meth c s₁ B hml hout hv
  obtain ⟨rfl, ⟨hsz, hP, hK, hD0⟩, hX⟩ := hv
  have hx := B.exec
  have hb := B.bytes
  have hr := B.returns
  have hts := atoms_spec (ws := wsX1_interest) B.pre
  have hown : s.vm.findClass RX1 = some m.cls := findClass_of_methodNamed B.named
  have hlocks := B.notSynchronized
  obtain ⟨hD, hA, hS⟩ := z_in hsz hAe hD0
  have hl := lv_entry ([.ref ua, .int (nI j)]) (n := 2) (Nat.le_of_ble_eq_true rfl)
  rw [lg_entry_eq]
  generalize (lg_sl ([.ref ua, .int (nI j)]) ++ List.replicate (2 - (lg_sl ([.ref ua, .int (nI j)])).length) Slot.unset).toArray = ls at hl ⊢
  have hl : lv_has ls 2 [(0, .ref ua), (1, .int (nI j))] := hl
  have hinX0 : ∀ w ∈ wsX00, w ∈ wsX1_interest := by decide +kernel
  have hinX1 : ∀ w ∈ wsX10, w ∈ wsX1_interest := by decide +kernel
  obtain ⟨hT, hPT, hrt, hlf, hp, hRb⟩ := id hZ
  obtain ⟨hI, hPd, hWn, hG, hu, hv⟩ := id hC
  refine lv_aload_n hx hb dX1_interest_0 rfl (lv_at hl 0 rfl) ?_
  refine lv_iload_n hx hb dX1_interest_1 rfl (lv_at hl 1 rfl) ?_
  refine z_axq (wa := []) (wc := [(ua, .inr (1, [.ref ar, .int (nI cnt)])), (ar, .inl (g.2.2.1, 6, .inr (.inr (.inr (.inr rows)))))]) (wb := [(h, .inr (0, [.int (nI rt), .int (nI lf), .ref pa, .ref da, .int (nI T), .int (nI P), .long (lN R0), .long xI, .long xP, .long xW, .long xG])), (pa, .inl (g.2.1, 120, .inl u)), (da, .inl (g.2.1, 121, .inl v))]) (vx_runV (As := [.int (nI j)]) (rest := []) ⟨hx, hb, hml, hown, hts⟩ (c_leaseOf l hst g ua ar cnt rows (nI j) s.heap.size _ rfl) (cwV 1 hts gX1_interest_X1_leaseOf rfl rfl rfl (by decide +kernel) ⟨Nat.le_of_ble_eq_true rfl, Nat.le_of_ble_eq_true rfl⟩) (zpreXV (wa := []) (wc := [(ua, .inr (1, [.ref ar, .int (nI cnt)])), (ar, .inl (g.2.2.1, 6, .inr (.inr (.inr (.inr rows)))))]) (wb := [(h, .inr (0, [.int (nI rt), .int (nI lf), .ref pa, .ref da, .int (nI T), .int (nI P), .long (lN R0), .long xI, .long xP, .long xW, .long xG])), (pa, .inl (g.2.1, 120, .inl u)), (da, .inl (g.2.1, 121, .inl v))]) (q0 := 0) (ci := 1) (T := TX1) (N := 2) hK hP hD hS hA hX rfl rfl) rfl rfl hl.1 rfl (lv_room (Nat.le_of_ble_eq_true rfl)) dX1_interest_2 ⟨Nat.le_of_ble_eq_true rfl, Nat.le_of_ble_eq_true rfl⟩) hP hD hS hA (fun E ce q9 H locs hE hP hD hS hc1 hc2 hc3 => ?_) (fun r_1 w1 H locs hq hP hD hS => ?_)
  · exact absurd hrow (hE.2 j h hj rfl)
  · obtain ⟨⟨j2, h2, hj2, ej2, hr2, rfl⟩, rfl⟩ := hq
    have hP : va_P g.1 vwCl [(ua, .inr (1, [.ref ar, .int (nI cnt)])), (ar, .inl (g.2.2.1, 6, .inr (.inr (.inr (.inr rows))))), (h, .inr (0, [.int (nI rt), .int (nI lf), .ref pa, .ref da, .int (nI T), .int (nI P), .long (lN R0), .long xI, .long xP, .long xW, .long xG])), (pa, .inl (g.2.1, 120, .inl u)), (da, .inl (g.2.1, 121, .inl v))] H := hP
    have hD : va_D A [(ua, .inr (1, [.ref ar, .int (nI cnt)])), (ar, .inl (g.2.2.1, 6, .inr (.inr (.inr (.inr rows))))), (h, .inr (0, [.int (nI rt), .int (nI lf), .ref pa, .ref da, .int (nI T), .int (nI P), .long (lN R0), .long xI, .long xP, .long xW, .long xG])), (pa, .inl (g.2.1, 120, .inl u)), (da, .inl (g.2.1, 121, .inl v))] := hD
    obtain rfl : j = j2 := (nI_eq (by omega) (by omega)).mp ej2
    obtain rfl : h = h2 := Option.some.inj (hrow.symm.trans hr2)
    refine zqs ?_
    refine va_getN (D := g.1) (ci := 0) (v := .long xI) (own := "Usewise") (ref := "Usewise$Lease") (host := "Usewise") (index := 98) (C := RX0) (T := TX0) (N := 11) hx hb hts hinX0 hown hK hP 2 rfl rfl 7 (by decide) (va_Nw.use rfl (hX.2.2.1 (.fieldLinkNest "Usewise" 98 "Usewise$Lease" "interest" "J" "Usewise") (by decide +kernel))) (fun _ h9 => h9) rfl dX1_interest_5 ?_
    refine lv_l2i hx hb dX1_interest_8 rfl ?_
    exact z_xiret hx hb hr hP hK hD hS dX1_interest_9 hlocks (⟨hI, rfl⟩)

set_option maxHeartbeats 4000000 in
set_option maxRecDepth 100000 in
theorem p_written (l : Launch) (hst : l.stackTraces = false) (g : zG) (ua ar cnt : Nat) (rows : Nat → Option Nat) (j : Nat) (h pa da rt lf T P R0 : Nat) (py : Nat → Nat) (I Pd Wn G : Int32) (xI xP xW xG : Int64) (u v : Nat → Int32) (hj : j < 6) (hrow : rows j = some h) (hZ : zInv rt lf (T, P, py, R0, I, Pd, Wn, G)) (hC : zCR rt (T, P, py, R0, I, Pd, Wn, G) (xI, xP, xW, xG, u, v)) : zXi l yX1_written wsX1_written ({ frames := 7, cells := 1, slots := 6, locals := 125 } : Room) [.ref ua, .int (nI j)] g [(ua, .inr (1, [.ref ar, .int (nI cnt)])), (ar, .inl (g.2.2.1, 6, .inr (.inr (.inr (.inr rows))))), (h, .inr (0, [.int (nI rt), .int (nI lf), .ref pa, .ref da, .int (nI T), .int (nI P), .long (lN R0), .long xI, .long xP, .long xW, .long xG])), (pa, .inl (g.2.1, 120, .inl u)), (da, .inl (g.2.1, 121, .inl v))] (fun q w => q = Wn ∧ w = [(ua, .inr (1, [.ref ar, .int (nI cnt)])), (ar, .inl (g.2.2.1, 6, .inr (.inr (.inr (.inr rows))))), (h, .inr (0, [.int (nI rt), .int (nI lf), .ref pa, .ref da, .int (nI T), .int (nI P), .long (lN R0), .long xI, .long xP, .long xW, .long xG])), (pa, .inl (g.2.1, 120, .inl u)), (da, .inl (g.2.1, 121, .inl v))]) (fun _ => False) 1 6 := by
  intro sz A hAe
  refine vx_ofW (cc := cX1_written) (maxL := 2) (ret := some .int) (by decide) rfl ?_
  intro p e s m args below meth c s₁ B hml hout hv
  obtain ⟨rfl, ⟨hsz, hP, hK, hD0⟩, hX⟩ := hv
  have hx := B.exec
  have hb := B.bytes
  have hr := B.returns
  have hts := atoms_spec (ws := wsX1_written) B.pre
  have hown : s.vm.findClass RX1 = some m.cls := findClass_of_methodNamed B.named
  have hlocks := B.notSynchronized
  obtain ⟨hD, hA, hS⟩ := z_in hsz hAe hD0
  have hl := lv_entry ([.ref ua, .int (nI j)]) (n := 2) (Nat.le_of_ble_eq_true rfl)
  rw [lg_entry_eq]
  generalize (lg_sl ([.ref ua, .int (nI j)]) ++ List.replicate (2 - (lg_sl ([.ref ua, .int (nI j)])).length) Slot.unset).toArray = ls at hl ⊢
  have hl : lv_has ls 2 [(0, .ref ua), (1, .int (nI j))] := hl
  have hinX0 : ∀ w ∈ wsX00, w ∈ wsX1_written := by decide +kernel
  have hinX1 : ∀ w ∈ wsX10, w ∈ wsX1_written := by decide +kernel
  obtain ⟨hT, hPT, hrt, hlf, hp, hRb⟩ := id hZ
  obtain ⟨hI, hPd, hWn, hG, hu, hv⟩ := id hC
  refine lv_aload_n hx hb dX1_written_0 rfl (lv_at hl 0 rfl) ?_
  refine lv_iload_n hx hb dX1_written_1 rfl (lv_at hl 1 rfl) ?_
  refine z_axq (wa := []) (wc := [(ua, .inr (1, [.ref ar, .int (nI cnt)])), (ar, .inl (g.2.2.1, 6, .inr (.inr (.inr (.inr rows)))))]) (wb := [(h, .inr (0, [.int (nI rt), .int (nI lf), .ref pa, .ref da, .int (nI T), .int (nI P), .long (lN R0), .long xI, .long xP, .long xW, .long xG])), (pa, .inl (g.2.1, 120, .inl u)), (da, .inl (g.2.1, 121, .inl v))]) (vx_runV (As := [.int (nI j)]) (rest := []) ⟨hx, hb, hml, hown, hts⟩ (c_leaseOf l hst g ua ar cnt rows (nI j) s.heap.size _ rfl) (cwV 1 hts gX1_written_X1_leaseOf rfl rfl rfl (by decide +kernel) ⟨Nat.le_of_ble_eq_true rfl, Nat.le_of_ble_eq_true rfl⟩) (zpreXV (wa := []) (wc := [(ua, .inr (1, [.ref ar, .int (nI cnt)])), (ar, .inl (g.2.2.1, 6, .inr (.inr (.inr (.inr rows)))))]) (wb := [(h, .inr (0, [.int (nI rt), .int (nI lf), .ref pa, .ref da, .int (nI T), .int (nI P), .long (lN R0), .long xI, .long xP, .long xW, .long xG])), (pa, .inl (g.2.1, 120, .inl u)), (da, .inl (g.2.1, 121, .inl v))]) (q0 := 0) (ci := 1) (T := TX1) (N := 2) hK hP hD hS hA hX rfl rfl) rfl rfl hl.1 rfl (lv_room (Nat.le_of_ble_eq_true rfl)) dX1_written_2 ⟨Nat.le_of_ble_eq_true rfl, Nat.le_of_ble_eq_true rfl⟩) hP hD hS hA (fun E ce q9 H locs hE hP hD hS hc1 hc2 hc3 => ?_) (fun r_1 w1 H locs hq hP hD hS => ?_)
  · exact absurd hrow (hE.2 j h hj rfl)
  · obtain ⟨⟨j2, h2, hj2, ej2, hr2, rfl⟩, rfl⟩ := hq
    have hP : va_P g.1 vwCl [(ua, .inr (1, [.ref ar, .int (nI cnt)])), (ar, .inl (g.2.2.1, 6, .inr (.inr (.inr (.inr rows))))), (h, .inr (0, [.int (nI rt), .int (nI lf), .ref pa, .ref da, .int (nI T), .int (nI P), .long (lN R0), .long xI, .long xP, .long xW, .long xG])), (pa, .inl (g.2.1, 120, .inl u)), (da, .inl (g.2.1, 121, .inl v))] H := hP
    have hD : va_D A [(ua, .inr (1, [.ref ar, .int (nI cnt)])), (ar, .inl (g.2.2.1, 6, .inr (.inr (.inr (.inr rows))))), (h, .inr (0, [.int (nI rt), .int (nI lf), .ref pa, .ref da, .int (nI T), .int (nI P), .long (lN R0), .long xI, .long xP, .long xW, .long xG])), (pa, .inl (g.2.1, 120, .inl u)), (da, .inl (g.2.1, 121, .inl v))] := hD
    obtain rfl : j = j2 := (nI_eq (by omega) (by omega)).mp ej2
    obtain rfl : h = h2 := Option.some.inj (hrow.symm.trans hr2)
    refine zqs ?_
    refine va_getN (D := g.1) (ci := 0) (v := .long xW) (own := "Usewise") (ref := "Usewise$Lease") (host := "Usewise") (index := 101) (C := RX0) (T := TX0) (N := 11) hx hb hts hinX0 hown hK hP 2 rfl rfl 9 (by decide) (va_Nw.use rfl (hX.2.2.1 (.fieldLinkNest "Usewise" 101 "Usewise$Lease" "written" "J" "Usewise") (by decide +kernel))) (fun _ h9 => h9) rfl dX1_written_5 ?_
    refine lv_l2i hx hb dX1_written_8 rfl ?_
    exact z_xiret hx hb hr hP hK hD hS dX1_written_9 hlocks (⟨hWn, rfl⟩)

set_option maxHeartbeats 4000000 in
set_option maxRecDepth 100000 in
theorem p_paid (l : Launch) (hst : l.stackTraces = false) (g : zG) (ua ar cnt : Nat) (rows : Nat → Option Nat) (j : Nat) (h pa da rt lf T P R0 : Nat) (py : Nat → Nat) (I Pd Wn G : Int32) (xI xP xW xG : Int64) (u v : Nat → Int32) (hj : j < 6) (hrow : rows j = some h) (hZ : zInv rt lf (T, P, py, R0, I, Pd, Wn, G)) (hC : zCR rt (T, P, py, R0, I, Pd, Wn, G) (xI, xP, xW, xG, u, v)) : zXi l yX1_paid wsX1_paid ({ frames := 7, cells := 1, slots := 6, locals := 125 } : Room) [.ref ua, .int (nI j)] g [(ua, .inr (1, [.ref ar, .int (nI cnt)])), (ar, .inl (g.2.2.1, 6, .inr (.inr (.inr (.inr rows))))), (h, .inr (0, [.int (nI rt), .int (nI lf), .ref pa, .ref da, .int (nI T), .int (nI P), .long (lN R0), .long xI, .long xP, .long xW, .long xG])), (pa, .inl (g.2.1, 120, .inl u)), (da, .inl (g.2.1, 121, .inl v))] (fun q w => q = Pd ∧ w = [(ua, .inr (1, [.ref ar, .int (nI cnt)])), (ar, .inl (g.2.2.1, 6, .inr (.inr (.inr (.inr rows))))), (h, .inr (0, [.int (nI rt), .int (nI lf), .ref pa, .ref da, .int (nI T), .int (nI P), .long (lN R0), .long xI, .long xP, .long xW, .long xG])), (pa, .inl (g.2.1, 120, .inl u)), (da, .inl (g.2.1, 121, .inl v))]) (fun _ => False) 1 6 := by
  intro sz A hAe
  refine vx_ofW (cc := cX1_paid) (maxL := 2) (ret := some .int) (by decide) rfl ?_
  intro p e s m args below meth c s₁ B hml hout hv
  obtain ⟨rfl, ⟨hsz, hP, hK, hD0⟩, hX⟩ := hv
  have hx := B.exec
  have hb := B.bytes
  have hr := B.returns
  have hts := atoms_spec (ws := wsX1_paid) B.pre
  have hown : s.vm.findClass RX1 = some m.cls := findClass_of_methodNamed B.named
  have hlocks := B.notSynchronized
  obtain ⟨hD, hA, hS⟩ := z_in hsz hAe hD0
  have hl := lv_entry ([.ref ua, .int (nI j)]) (n := 2) (Nat.le_of_ble_eq_true rfl)
  rw [lg_entry_eq]
  generalize (lg_sl ([.ref ua, .int (nI j)]) ++ List.replicate (2 - (lg_sl ([.ref ua, .int (nI j)])).length) Slot.unset).toArray = ls at hl ⊢
  have hl : lv_has ls 2 [(0, .ref ua), (1, .int (nI j))] := hl
  have hinX0 : ∀ w ∈ wsX00, w ∈ wsX1_paid := by decide +kernel
  have hinX1 : ∀ w ∈ wsX10, w ∈ wsX1_paid := by decide +kernel
  obtain ⟨hT, hPT, hrt, hlf, hp, hRb⟩ := id hZ
  obtain ⟨hI, hPd, hWn, hG, hu, hv⟩ := id hC
  refine lv_aload_n hx hb dX1_paid_0 rfl (lv_at hl 0 rfl) ?_
  refine lv_iload_n hx hb dX1_paid_1 rfl (lv_at hl 1 rfl) ?_
  refine z_axq (wa := []) (wc := [(ua, .inr (1, [.ref ar, .int (nI cnt)])), (ar, .inl (g.2.2.1, 6, .inr (.inr (.inr (.inr rows)))))]) (wb := [(h, .inr (0, [.int (nI rt), .int (nI lf), .ref pa, .ref da, .int (nI T), .int (nI P), .long (lN R0), .long xI, .long xP, .long xW, .long xG])), (pa, .inl (g.2.1, 120, .inl u)), (da, .inl (g.2.1, 121, .inl v))]) (vx_runV (As := [.int (nI j)]) (rest := []) ⟨hx, hb, hml, hown, hts⟩ (c_leaseOf l hst g ua ar cnt rows (nI j) s.heap.size _ rfl) (cwV 1 hts gX1_paid_X1_leaseOf rfl rfl rfl (by decide +kernel) ⟨Nat.le_of_ble_eq_true rfl, Nat.le_of_ble_eq_true rfl⟩) (zpreXV (wa := []) (wc := [(ua, .inr (1, [.ref ar, .int (nI cnt)])), (ar, .inl (g.2.2.1, 6, .inr (.inr (.inr (.inr rows)))))]) (wb := [(h, .inr (0, [.int (nI rt), .int (nI lf), .ref pa, .ref da, .int (nI T), .int (nI P), .long (lN R0), .long xI, .long xP, .long xW, .long xG])), (pa, .inl (g.2.1, 120, .inl u)), (da, .inl (g.2.1, 121, .inl v))]) (q0 := 0) (ci := 1) (T := TX1) (N := 2) hK hP hD hS hA hX rfl rfl) rfl rfl hl.1 rfl (lv_room (Nat.le_of_ble_eq_true rfl)) dX1_paid_2 ⟨Nat.le_of_ble_eq_true rfl, Nat.le_of_ble_eq_true rfl⟩) hP hD hS hA (fun E ce q9 H locs hE hP hD hS hc1 hc2 hc3 => ?_) (fun r_1 w1 H locs hq hP hD hS => ?_)
  · exact absurd hrow (hE.2 j h hj rfl)
  · obtain ⟨⟨j2, h2, hj2, ej2, hr2, rfl⟩, rfl⟩ := hq
    have hP : va_P g.1 vwCl [(ua, .inr (1, [.ref ar, .int (nI cnt)])), (ar, .inl (g.2.2.1, 6, .inr (.inr (.inr (.inr rows))))), (h, .inr (0, [.int (nI rt), .int (nI lf), .ref pa, .ref da, .int (nI T), .int (nI P), .long (lN R0), .long xI, .long xP, .long xW, .long xG])), (pa, .inl (g.2.1, 120, .inl u)), (da, .inl (g.2.1, 121, .inl v))] H := hP
    have hD : va_D A [(ua, .inr (1, [.ref ar, .int (nI cnt)])), (ar, .inl (g.2.2.1, 6, .inr (.inr (.inr (.inr rows))))), (h, .inr (0, [.int (nI rt), .int (nI lf), .ref pa, .ref da, .int (nI T), .int (nI P), .long (lN R0), .long xI, .long xP, .long xW, .long xG])), (pa, .inl (g.2.1, 120, .inl u)), (da, .inl (g.2.1, 121, .inl v))] := hD
    obtain rfl : j = j2 := (nI_eq (by omega) (by omega)).mp ej2
    obtain rfl : h = h2 := Option.some.inj (hrow.symm.trans hr2)
    refine zqs ?_
    refine va_getN (D := g.1) (ci := 0) (v := .long xP) (own := "Usewise") (ref := "Usewise$Lease") (host := "Usewise") (index := 104) (C := RX0) (T := TX0) (N := 11) hx hb hts hinX0 hown hK hP 2 rfl rfl 8 (by decide) (va_Nw.use rfl (hX.2.2.1 (.fieldLinkNest "Usewise" 104 "Usewise$Lease" "paid" "J" "Usewise") (by decide +kernel))) (fun _ h9 => h9) rfl dX1_paid_5 ?_
    refine lv_l2i hx hb dX1_paid_8 rfl ?_
    exact z_xiret hx hb hr hP hK hD hS dX1_paid_9 hlocks (⟨hPd, rfl⟩)

set_option maxHeartbeats 4000000 in
set_option maxRecDepth 100000 in
theorem p_gains (l : Launch) (hst : l.stackTraces = false) (g : zG) (ua ar cnt : Nat) (rows : Nat → Option Nat) (j : Nat) (h pa da rt lf T P R0 : Nat) (py : Nat → Nat) (I Pd Wn G : Int32) (xI xP xW xG : Int64) (u v : Nat → Int32) (hj : j < 6) (hrow : rows j = some h) (hZ : zInv rt lf (T, P, py, R0, I, Pd, Wn, G)) (hC : zCR rt (T, P, py, R0, I, Pd, Wn, G) (xI, xP, xW, xG, u, v)) : zXi l yX1_gains wsX1_gains ({ frames := 7, cells := 1, slots := 6, locals := 125 } : Room) [.ref ua, .int (nI j)] g [(ua, .inr (1, [.ref ar, .int (nI cnt)])), (ar, .inl (g.2.2.1, 6, .inr (.inr (.inr (.inr rows))))), (h, .inr (0, [.int (nI rt), .int (nI lf), .ref pa, .ref da, .int (nI T), .int (nI P), .long (lN R0), .long xI, .long xP, .long xW, .long xG])), (pa, .inl (g.2.1, 120, .inl u)), (da, .inl (g.2.1, 121, .inl v))] (fun q w => q = G ∧ w = [(ua, .inr (1, [.ref ar, .int (nI cnt)])), (ar, .inl (g.2.2.1, 6, .inr (.inr (.inr (.inr rows))))), (h, .inr (0, [.int (nI rt), .int (nI lf), .ref pa, .ref da, .int (nI T), .int (nI P), .long (lN R0), .long xI, .long xP, .long xW, .long xG])), (pa, .inl (g.2.1, 120, .inl u)), (da, .inl (g.2.1, 121, .inl v))]) (fun _ => False) 1 6 := by
  intro sz A hAe
  refine vx_ofW (cc := cX1_gains) (maxL := 2) (ret := some .int) (by decide) rfl ?_
  intro p e s m args below meth c s₁ B hml hout hv
  obtain ⟨rfl, ⟨hsz, hP, hK, hD0⟩, hX⟩ := hv
  have hx := B.exec
  have hb := B.bytes
  have hr := B.returns
  have hts := atoms_spec (ws := wsX1_gains) B.pre
  have hown : s.vm.findClass RX1 = some m.cls := findClass_of_methodNamed B.named
  have hlocks := B.notSynchronized
  obtain ⟨hD, hA, hS⟩ := z_in hsz hAe hD0
  have hl := lv_entry ([.ref ua, .int (nI j)]) (n := 2) (Nat.le_of_ble_eq_true rfl)
  rw [lg_entry_eq]
  generalize (lg_sl ([.ref ua, .int (nI j)]) ++ List.replicate (2 - (lg_sl ([.ref ua, .int (nI j)])).length) Slot.unset).toArray = ls at hl ⊢
  have hl : lv_has ls 2 [(0, .ref ua), (1, .int (nI j))] := hl
  have hinX0 : ∀ w ∈ wsX00, w ∈ wsX1_gains := by decide +kernel
  have hinX1 : ∀ w ∈ wsX10, w ∈ wsX1_gains := by decide +kernel
  obtain ⟨hT, hPT, hrt, hlf, hp, hRb⟩ := id hZ
  obtain ⟨hI, hPd, hWn, hG, hu, hv⟩ := id hC
  refine lv_aload_n hx hb dX1_gains_0 rfl (lv_at hl 0 rfl) ?_
  refine lv_iload_n hx hb dX1_gains_1 rfl (lv_at hl 1 rfl) ?_
  refine z_axq (wa := []) (wc := [(ua, .inr (1, [.ref ar, .int (nI cnt)])), (ar, .inl (g.2.2.1, 6, .inr (.inr (.inr (.inr rows)))))]) (wb := [(h, .inr (0, [.int (nI rt), .int (nI lf), .ref pa, .ref da, .int (nI T), .int (nI P), .long (lN R0), .long xI, .long xP, .long xW, .long xG])), (pa, .inl (g.2.1, 120, .inl u)), (da, .inl (g.2.1, 121, .inl v))]) (vx_runV (As := [.int (nI j)]) (rest := []) ⟨hx, hb, hml, hown, hts⟩ (c_leaseOf l hst g ua ar cnt rows (nI j) s.heap.size _ rfl) (cwV 1 hts gX1_gains_X1_leaseOf rfl rfl rfl (by decide +kernel) ⟨Nat.le_of_ble_eq_true rfl, Nat.le_of_ble_eq_true rfl⟩) (zpreXV (wa := []) (wc := [(ua, .inr (1, [.ref ar, .int (nI cnt)])), (ar, .inl (g.2.2.1, 6, .inr (.inr (.inr (.inr rows)))))]) (wb := [(h, .inr (0, [.int (nI rt), .int (nI lf), .ref pa, .ref da, .int (nI T), .int (nI P), .long (lN R0), .long xI, .long xP, .long xW, .long xG])), (pa, .inl (g.2.1, 120, .inl u)), (da, .inl (g.2.1, 121, .inl v))]) (q0 := 0) (ci := 1) (T := TX1) (N := 2) hK hP hD hS hA hX rfl rfl) rfl rfl hl.1 rfl (lv_room (Nat.le_of_ble_eq_true rfl)) dX1_gains_2 ⟨Nat.le_of_ble_eq_true rfl, Nat.le_of_ble_eq_true rfl⟩) hP hD hS hA (fun E ce q9 H locs hE hP hD hS hc1 hc2 hc3 => ?_) (fun r_1 w1 H locs hq hP hD hS => ?_)
  · exact absurd hrow (hE.2 j h hj rfl)
  · obtain ⟨⟨j2, h2, hj2, ej2, hr2, rfl⟩, rfl⟩ := hq
    have hP : va_P g.1 vwCl [(ua, .inr (1, [.ref ar, .int (nI cnt)])), (ar, .inl (g.2.2.1, 6, .inr (.inr (.inr (.inr rows))))), (h, .inr (0, [.int (nI rt), .int (nI lf), .ref pa, .ref da, .int (nI T), .int (nI P), .long (lN R0), .long xI, .long xP, .long xW, .long xG])), (pa, .inl (g.2.1, 120, .inl u)), (da, .inl (g.2.1, 121, .inl v))] H := hP
    have hD : va_D A [(ua, .inr (1, [.ref ar, .int (nI cnt)])), (ar, .inl (g.2.2.1, 6, .inr (.inr (.inr (.inr rows))))), (h, .inr (0, [.int (nI rt), .int (nI lf), .ref pa, .ref da, .int (nI T), .int (nI P), .long (lN R0), .long xI, .long xP, .long xW, .long xG])), (pa, .inl (g.2.1, 120, .inl u)), (da, .inl (g.2.1, 121, .inl v))] := hD
    obtain rfl : j = j2 := (nI_eq (by omega) (by omega)).mp ej2
    obtain rfl : h = h2 := Option.some.inj (hrow.symm.trans hr2)
    refine zqs ?_
    refine va_getN (D := g.1) (ci := 0) (v := .long xG) (own := "Usewise") (ref := "Usewise$Lease") (host := "Usewise") (index := 107) (C := RX0) (T := TX0) (N := 11) hx hb hts hinX0 hown hK hP 2 rfl rfl 10 (by decide) (va_Nw.use rfl (hX.2.2.1 (.fieldLinkNest "Usewise" 107 "Usewise$Lease" "gains" "J" "Usewise") (by decide +kernel))) (fun _ h9 => h9) rfl dX1_gains_5 ?_
    refine lv_l2i hx hb dX1_gains_8 rfl ?_
    exact z_xiret hx hb hr hP hK hD hS dX1_gains_9 hlocks (⟨hG, rfl⟩)

set_option maxHeartbeats 4000000 in
set_option maxRecDepth 100000 in
theorem p_review (l : Launch) (hst : l.stackTraces = false) (g : zG) (ua ar cnt : Nat) (rows : Nat → Option Nat) (j : Nat) (h pa da rt lf T P R0 : Nat) (py : Nat → Nat) (I Pd Wn G : Int32) (xI xP xW xG : Int64) (u v : Nat → Int32) (x1 : Int32) (hj : j < 6) (hrow : rows j = some h) (hZ : zInv rt lf (T, P, py, R0, I, Pd, Wn, G)) (hC : zCR rt (T, P, py, R0, I, Pd, Wn, G) (xI, xP, xW, xG, u, v)) : zXi l yX1_review wsX1_review ({ frames := 7, cells := 4, slots := 24, locals := 125 } : Room) [.ref ua, .int (nI j), .int x1] g [(ua, .inr (1, [.ref ar, .int (nI cnt)])), (ar, .inl (g.2.2.1, 6, .inr (.inr (.inr (.inr rows))))), (h, .inr (0, [.int (nI rt), .int (nI lf), .ref pa, .ref da, .int (nI T), .int (nI P), .long (lN R0), .long xI, .long xP, .long xW, .long xG])), (pa, .inl (g.2.1, 120, .inl u)), (da, .inl (g.2.1, 121, .inl v))] (fun q w => ((-50) ≤ x1 ∧ x1 ≤ nI 100) ∧ (P < T ∧ ∀ i, P ≤ i → i < T → zSc (zA x1) py i ≤ 1000000) ∧ q = nI (zWr rt (zSc (zA x1) py) T (T - P)) ∧ ∃ q', w = [(ua, .inr (1, [.ref ar, .int (nI cnt)])), (ar, .inl (g.2.2.1, 6, .inr (.inr (.inr (.inr rows)))))] ++ zLW g (h, pa, da) rt lf (zFol rt T (zSc (zA x1) py) (T, P, py, R0, I, Pd, Wn, G)) q' ∧ zCR rt (zFol rt T (zSc (zA x1) py) (T, P, py, R0, I, Pd, Wn, G)) q') (fun E => (E = "java/lang/IllegalArgumentException" ∧ ¬ ((-50) ≤ x1 ∧ x1 ≤ nI 100)) ∨ (E = "java/lang/IllegalStateException" ∧ ((-50) ≤ x1 ∧ x1 ≤ nI 100) ∧ ¬ (P < T ∧ ∀ i, P ≤ i → i < T → zSc (zA x1) py i ≤ 1000000))) 4 24 := by
  intro sz A hAe
  refine vx_ofW (cc := cX1_review) (maxL := 4) (ret := some .int) (by decide) rfl ?_
  intro p e s m args below meth c s₁ B hml hout hv
  obtain ⟨rfl, ⟨hsz, hP, hK, hD0⟩, hX⟩ := hv
  have hx := B.exec
  have hb := B.bytes
  have hr := B.returns
  have hts := atoms_spec (ws := wsX1_review) B.pre
  have hown : s.vm.findClass RX1 = some m.cls := findClass_of_methodNamed B.named
  have hlocks := B.notSynchronized
  obtain ⟨hD, hA, hS⟩ := z_in hsz hAe hD0
  have hl := lv_entry ([.ref ua, .int (nI j), .int x1]) (n := 4) (Nat.le_of_ble_eq_true rfl)
  rw [lg_entry_eq]
  generalize (lg_sl ([.ref ua, .int (nI j), .int x1]) ++ List.replicate (4 - (lg_sl ([.ref ua, .int (nI j), .int x1])).length) Slot.unset).toArray = ls at hl ⊢
  have hl : lv_has ls 4 [(0, .ref ua), (1, .int (nI j)), (2, .int x1)] := hl
  have hinX0 : ∀ w ∈ wsX00, w ∈ wsX1_review := by decide +kernel
  have hinX1 : ∀ w ∈ wsX10, w ∈ wsX1_review := by decide +kernel
  obtain ⟨hT, hPT, hrt, hlf, hp, hRb⟩ := id hZ
  obtain ⟨hI, hPd, hWn, hG, hu, hv⟩ := id hC
  refine lv_aload_n hx hb dX1_review_0 rfl (lv_at hl 0 rfl) ?_
  refine lv_iload_n hx hb dX1_review_1 rfl (lv_at hl 1 rfl) ?_
  refine z_axq (wa := []) (wc := [(ua, .inr (1, [.ref ar, .int (nI cnt)])), (ar, .inl (g.2.2.1, 6, .inr (.inr (.inr (.inr rows)))))]) (wb := [(h, .inr (0, [.int (nI rt), .int (nI lf), .ref pa, .ref da, .int (nI T), .int (nI P), .long (lN R0), .long xI, .long xP, .long xW, .long xG])), (pa, .inl (g.2.1, 120, .inl u)), (da, .inl (g.2.1, 121, .inl v))]) (vx_runV (As := [.int (nI j)]) (rest := []) ⟨hx, hb, hml, hown, hts⟩ (c_leaseOf l hst g ua ar cnt rows (nI j) s.heap.size _ rfl) (cwV 1 hts gX1_review_X1_leaseOf rfl rfl rfl (by decide +kernel) ⟨Nat.le_of_ble_eq_true rfl, Nat.le_of_ble_eq_true rfl⟩) (zpreXV (wa := []) (wc := [(ua, .inr (1, [.ref ar, .int (nI cnt)])), (ar, .inl (g.2.2.1, 6, .inr (.inr (.inr (.inr rows)))))]) (wb := [(h, .inr (0, [.int (nI rt), .int (nI lf), .ref pa, .ref da, .int (nI T), .int (nI P), .long (lN R0), .long xI, .long xP, .long xW, .long xG])), (pa, .inl (g.2.1, 120, .inl u)), (da, .inl (g.2.1, 121, .inl v))]) (q0 := 0) (ci := 1) (T := TX1) (N := 2) hK hP hD hS hA hX rfl rfl) rfl rfl hl.1 rfl (lv_room (Nat.le_of_ble_eq_true rfl)) dX1_review_2 ⟨Nat.le_of_ble_eq_true rfl, Nat.le_of_ble_eq_true rfl⟩) hP hD hS hA (fun E ce q9 H locs hE hP hD hS hc1 hc2 hc3 => ?_) (fun r_1 w1 H locs hq hP hD hS => ?_)
  · exact absurd hrow (hE.2 j h hj rfl)
  · obtain ⟨⟨j2, h2, hj2, ej2, hr2, rfl⟩, rfl⟩ := hq
    have hP : va_P g.1 vwCl [(ua, .inr (1, [.ref ar, .int (nI cnt)])), (ar, .inl (g.2.2.1, 6, .inr (.inr (.inr (.inr rows))))), (h, .inr (0, [.int (nI rt), .int (nI lf), .ref pa, .ref da, .int (nI T), .int (nI P), .long (lN R0), .long xI, .long xP, .long xW, .long xG])), (pa, .inl (g.2.1, 120, .inl u)), (da, .inl (g.2.1, 121, .inl v))] H := hP
    have hD : va_D A [(ua, .inr (1, [.ref ar, .int (nI cnt)])), (ar, .inl (g.2.2.1, 6, .inr (.inr (.inr (.inr rows))))), (h, .inr (0, [.int (nI rt), .int (nI lf), .ref pa, .ref da, .int (nI T), .int (nI P), .long (lN R0), .long xI, .long xP, .long xW, .long xG])), (pa, .inl (g.2.1, 120, .inl u)), (da, .inl (g.2.1, 121, .inl v))] := hD
    obtain rfl : j = j2 := (nI_eq (by omega) (by omega)).mp ej2
    obtain rfl : h = h2 := Option.some.inj (hrow.symm.trans hr2)
    refine zqs ?_
    refine lv_astore_n (lv' := [(3, .ref h), (0, .ref ua), (1, .int (nI j)), (2, .int x1)]) hx hb dX1_review_5 rfl hl (by decide) rfl (fun ls hl => ?_)
    refine lv_iload_n hx hb dX1_review_6 rfl (lv_at hl 3 rfl) ?_
    refine lv_bipush (v := (-50)) hx hb dX1_review_7 (by decide) ?_
    refine lv_bipush (v := nI 100) hx hb dX1_review_9 (by decide) ?_
    refine z_axv (wa := []) (wc := []) (wb := [(ua, .inr (1, [.ref ar, .int (nI cnt)])), (ar, .inl (g.2.2.1, 6, .inr (.inr (.inr (.inr rows))))), (h, .inr (0, [.int (nI rt), .int (nI lf), .ref pa, .ref da, .int (nI T), .int (nI P), .long (lN R0), .long xI, .long xP, .long xW, .long xG])), (pa, .inl (g.2.1, 120, .inl u)), (da, .inl (g.2.1, 121, .inl v))]) (vx_runS (As := [.int x1, .int ((-50)), .int (nI 100)]) (rest := []) ⟨hx, hb, hml, hown, hts⟩ (c_mustBeWithin l hst g x1 (-50) (nI 100) H.size _ rfl) (va_cwS 3 hts gX1_review_X1_mustBeWithin rfl rfl rfl (by decide +kernel) ⟨Nat.le_of_ble_eq_true rfl, Nat.le_of_ble_eq_true rfl⟩) (zpreXS (wa := []) (wc := []) (wb := [(ua, .inr (1, [.ref ar, .int (nI cnt)])), (ar, .inl (g.2.2.1, 6, .inr (.inr (.inr (.inr rows))))), (h, .inr (0, [.int (nI rt), .int (nI lf), .ref pa, .ref da, .int (nI T), .int (nI P), .long (lN R0), .long xI, .long xP, .long xW, .long xG])), (pa, .inl (g.2.1, 120, .inl u)), (da, .inl (g.2.1, 121, .inl v))]) hK hP hD hS hA hX) rfl rfl hl.1 rfl (lv_room (Nat.le_of_ble_eq_true rfl)) dX1_review_11 ⟨Nat.le_of_ble_eq_true rfl, Nat.le_of_ble_eq_true rfl⟩) hP hD hS hA (fun E ce q9 H locs hE hP hD hS hc1 hc2 hc3 => ?_) (fun w1 H locs hq hP hD hS => ?_)
    · exact z_out hout hP hK hD hS hlocks hc1 hc2 hc3 (Or.inl hE) (Nat.le_of_ble_eq_true rfl) (Nat.le_of_ble_eq_true rfl)
    · obtain ⟨hrng, rfl⟩ := hq
      have hP : va_P g.1 vwCl [(ua, .inr (1, [.ref ar, .int (nI cnt)])), (ar, .inl (g.2.2.1, 6, .inr (.inr (.inr (.inr rows))))), (h, .inr (0, [.int (nI rt), .int (nI lf), .ref pa, .ref da, .int (nI T), .int (nI P), .long (lN R0), .long xI, .long xP, .long xW, .long xG])), (pa, .inl (g.2.1, 120, .inl u)), (da, .inl (g.2.1, 121, .inl v))] H := hP
      have hD : va_D A [(ua, .inr (1, [.ref ar, .int (nI cnt)])), (ar, .inl (g.2.2.1, 6, .inr (.inr (.inr (.inr rows))))), (h, .inr (0, [.int (nI rt), .int (nI lf), .ref pa, .ref da, .int (nI T), .int (nI P), .long (lN R0), .long xI, .long xP, .long xW, .long xG])), (pa, .inl (g.2.1, 120, .inl u)), (da, .inl (g.2.1, 121, .inl v))] := hD
      refine lv_aload_n hx hb dX1_review_14 rfl (lv_at hl 0 rfl) ?_
      refine z_axv (wa := [(ua, .inr (1, [.ref ar, .int (nI cnt)])), (ar, .inl (g.2.2.1, 6, .inr (.inr (.inr (.inr rows)))))]) (wc := [(h, .inr (0, [.int (nI rt), .int (nI lf), .ref pa, .ref da, .int (nI T), .int (nI P), .long (lN R0), .long xI, .long xP, .long xW, .long xG])), (pa, .inl (g.2.1, 120, .inl u)), (da, .inl (g.2.1, 121, .inl v))]) (wb := []) (vx_runS (As := [.ref h]) (rest := []) ⟨hx, hb, hml, hown, hts⟩ (c_mustGoOn l hst g h pa da rt lf T P (lN R0) xI xP xW xG u v hPT hT H.size _ rfl) (va_cwS 1 hts gX1_review_X1_mustGoOn rfl rfl rfl (by decide +kernel) ⟨Nat.le_of_ble_eq_true rfl, Nat.le_of_ble_eq_true rfl⟩) (zpreXS (wa := [(ua, .inr (1, [.ref ar, .int (nI cnt)])), (ar, .inl (g.2.2.1, 6, .inr (.inr (.inr (.inr rows)))))]) (wc := [(h, .inr (0, [.int (nI rt), .int (nI lf), .ref pa, .ref da, .int (nI T), .int (nI P), .long (lN R0), .long xI, .long xP, .long xW, .long xG])), (pa, .inl (g.2.1, 120, .inl u)), (da, .inl (g.2.1, 121, .inl v))]) (wb := []) hK hP hD hS hA hX) rfl rfl hl.1 rfl (lv_room (Nat.le_of_ble_eq_true rfl)) dX1_review_15 ⟨Nat.le_of_ble_eq_true rfl, Nat.le_of_ble_eq_true rfl⟩) hP hD hS hA (fun E ce q9 H locs hE hP hD hS hc1 hc2 hc3 => ?_) (fun w1 H locs hq hP hD hS => ?_)
      · exact z_out hout hP hK hD hS hlocks hc1 hc2 hc3 (Or.inr ⟨hE.1, hrng, fun z => absurd z.1 (by have := hE.2; omega)⟩) (Nat.le_of_ble_eq_true rfl) (Nat.le_of_ble_eq_true rfl)
      · obtain ⟨hlt, rfl⟩ := hq
        have hP : va_P g.1 vwCl [(ua, .inr (1, [.ref ar, .int (nI cnt)])), (ar, .inl (g.2.2.1, 6, .inr (.inr (.inr (.inr rows))))), (h, .inr (0, [.int (nI rt), .int (nI lf), .ref pa, .ref da, .int (nI T), .int (nI P), .long (lN R0), .long xI, .long xP, .long xW, .long xG])), (pa, .inl (g.2.1, 120, .inl u)), (da, .inl (g.2.1, 121, .inl v))] H := hP
        have hD : va_D A [(ua, .inr (1, [.ref ar, .int (nI cnt)])), (ar, .inl (g.2.2.1, 6, .inr (.inr (.inr (.inr rows))))), (h, .inr (0, [.int (nI rt), .int (nI lf), .ref pa, .ref da, .int (nI T), .int (nI P), .long (lN R0), .long xI, .long xP, .long xW, .long xG])), (pa, .inl (g.2.1, 120, .inl u)), (da, .inl (g.2.1, 121, .inl v))] := hD
        obtain ⟨ea, ha⟩ := zA_in hrng
        refine lv_aload_n hx hb dX1_review_18 rfl (lv_at hl 0 rfl) ?_
        refine lv_bipush (v := nI 100) hx hb dX1_review_19 (by decide) ?_
        refine lv_iload_n hx hb dX1_review_21 rfl (lv_at hl 3 rfl) ?_
        refine lv_iadd hx hb dX1_review_22 ?_
        refine zi (y := nI (zA x1)) (ea) ?_
        refine z_ai (wa := [(ua, .inr (1, [.ref ar, .int (nI cnt)])), (ar, .inl (g.2.2.1, 6, .inr (.inr (.inr (.inr rows)))))]) (wc := [(h, .inr (0, [.int (nI rt), .int (nI lf), .ref pa, .ref da, .int (nI T), .int (nI P), .long (lN R0), .long xI, .long xP, .long xW, .long xG])), (pa, .inl (g.2.1, 120, .inl u)), (da, .inl (g.2.1, 121, .inl v))]) (wb := []) (va_runV (As := [.int (nI (zA x1))]) (rest := []) ⟨hx, hb, hml, hown, hts⟩ (c_wouldPassTheMost l g h pa da rt lf T P (lN R0) xI xP xW xG u v py (zA x1) hT hPT hp hu ha H.size _ rfl) (cwV 1 hts gX1_review_X0_wouldPassTheMost rfl rfl rfl (by decide +kernel) ⟨Nat.le_of_ble_eq_true rfl, Nat.le_of_ble_eq_true rfl⟩) (zpreV (wa := [(ua, .inr (1, [.ref ar, .int (nI cnt)])), (ar, .inl (g.2.2.1, 6, .inr (.inr (.inr (.inr rows)))))]) (wc := [(h, .inr (0, [.int (nI rt), .int (nI lf), .ref pa, .ref da, .int (nI T), .int (nI P), .long (lN R0), .long xI, .long xP, .long xW, .long xG])), (pa, .inl (g.2.1, 120, .inl u)), (da, .inl (g.2.1, 121, .inl v))]) (wb := []) (q0 := 0) (ci := 0) (T := TX0) (N := 11) hK hP hD rfl rfl) rfl rfl hl.1 rfl (lv_room (Nat.le_of_ble_eq_true rfl)) dX1_review_23 ⟨Nat.le_of_ble_eq_true rfl, Nat.le_of_ble_eq_true rfl⟩) hP hD hS hA (fun rb w1 H locs hq hP hD hS => ?_)
        obtain ⟨hcase, rfl⟩ := hq
        have hP : va_P g.1 vwCl [(ua, .inr (1, [.ref ar, .int (nI cnt)])), (ar, .inl (g.2.2.1, 6, .inr (.inr (.inr (.inr rows))))), (h, .inr (0, [.int (nI rt), .int (nI lf), .ref pa, .ref da, .int (nI T), .int (nI P), .long (lN R0), .long xI, .long xP, .long xW, .long xG])), (pa, .inl (g.2.1, 120, .inl u)), (da, .inl (g.2.1, 121, .inl v))] H := hP
        have hD : va_D A [(ua, .inr (1, [.ref ar, .int (nI cnt)])), (ar, .inl (g.2.2.1, 6, .inr (.inr (.inr (.inr rows))))), (h, .inr (0, [.int (nI rt), .int (nI lf), .ref pa, .ref da, .int (nI T), .int (nI P), .long (lN R0), .long xI, .long xP, .long xW, .long xG])), (pa, .inl (g.2.1, 120, .inl u)), (da, .inl (g.2.1, 121, .inl v))] := hD
        rcases hcase with ⟨⟨j0, hj1, hj2, hj3⟩, rfl⟩ | ⟨hok, rfl⟩
        · refine z_if_eq (tgt := 39) hx hb dX1_review_26 (by decide) (by omega) (fun hc => ?_) (fun hc => ?_)
          · exact absurd hc (by decide)
          · exact z_throw (text := "a payment would be too high") (Ts := wsX1_review) hx hb hst hown (by decide +kernel) hts (by decide +kernel) (by decide +kernel) (by decide +kernel) zbw_ISE zot_ISE_23 (by decide +kernel) hX hA hP hK hD hS (hl.1.trans hml.symm) dX1_review_29 dX1_review_32 dX1_review_33 dX1_review_35 dX1_review_38 hout (Nat.le_of_ble_eq_true rfl) (Nat.le_of_ble_eq_true rfl) (Nat.le_of_ble_eq_true rfl) (Nat.le_of_ble_eq_true rfl) hlocks (Or.inr ⟨rfl, hrng, fun z => absurd (z.2 j0 hj1 hj2) (by omega)⟩) (Nat.le_of_ble_eq_true rfl) (Nat.le_of_ble_eq_true rfl)
        · refine z_if_eq (tgt := 39) hx hb dX1_review_26 (by decide) (by omega) (fun hc => ?_) (fun hc => ?_)
          · refine lv_aload_n hx hb dX1_review_39 rfl (lv_at hl 0 rfl) ?_
            refine lv_bipush (v := nI 100) hx hb dX1_review_40 (by decide) ?_
            refine lv_iload_n hx hb dX1_review_42 rfl (lv_at hl 3 rfl) ?_
            refine lv_iadd hx hb dX1_review_43 ?_
            refine zi (y := nI (zA x1)) (ea) ?_
            refine z_av (wa := [(ua, .inr (1, [.ref ar, .int (nI cnt)])), (ar, .inl (g.2.2.1, 6, .inr (.inr (.inr (.inr rows)))))]) (wc := [(h, .inr (0, [.int (nI rt), .int (nI lf), .ref pa, .ref da, .int (nI T), .int (nI P), .long (lN R0), .long xI, .long xP, .long xW, .long xG])), (pa, .inl (g.2.1, 120, .inl u)), (da, .inl (g.2.1, 121, .inl v))]) (wb := []) (va_runV (As := [.int (nI (zA x1))]) (rest := []) ⟨hx, hb, hml, hown, hts⟩ (c_reviewPayments l g h pa da rt lf T P R0 py I Pd Wn G xI xP xW xG u v (zA x1) hZ hC ha hok H.size _ rfl) (cwV 1 hts gX1_review_X0_reviewPayments rfl rfl rfl (by decide +kernel) ⟨Nat.le_of_ble_eq_true rfl, Nat.le_of_ble_eq_true rfl⟩) (zpreV (wa := [(ua, .inr (1, [.ref ar, .int (nI cnt)])), (ar, .inl (g.2.2.1, 6, .inr (.inr (.inr (.inr rows)))))]) (wc := [(h, .inr (0, [.int (nI rt), .int (nI lf), .ref pa, .ref da, .int (nI T), .int (nI P), .long (lN R0), .long xI, .long xP, .long xW, .long xG])), (pa, .inl (g.2.1, 120, .inl u)), (da, .inl (g.2.1, 121, .inl v))]) (wb := []) (q0 := 0) (ci := 0) (T := TX0) (N := 11) hK hP hD rfl rfl) rfl rfl hl.1 rfl (lv_room (Nat.le_of_ble_eq_true rfl)) dX1_review_44 ⟨Nat.le_of_ble_eq_true rfl, Nat.le_of_ble_eq_true rfl⟩) hP hD hS hA (fun w1 H locs hq hP hD hS => ?_)
            obtain ⟨q2, rfl, hC2⟩ := hq
            have hP : va_P g.1 vwCl ([(ua, .inr (1, [.ref ar, .int (nI cnt)])), (ar, .inl (g.2.2.1, 6, .inr (.inr (.inr (.inr rows)))))] ++ (zLW g (h, pa, da) rt lf (zFol rt T (zSc (zA x1) py) (T, P, py, R0, I, Pd, Wn, G)) q2)) H := hP
            have hD : va_D A ([(ua, .inr (1, [.ref ar, .int (nI cnt)])), (ar, .inl (g.2.2.1, 6, .inr (.inr (.inr (.inr rows)))))] ++ (zLW g (h, pa, da) rt lf (zFol rt T (zSc (zA x1) py) (T, P, py, R0, I, Pd, Wn, G)) q2)) := hD
            generalize hz2 : zFol rt T (zSc (zA x1) py) (T, P, py, R0, I, Pd, Wn, G) = z2 at hP hD hC2
            obtain ⟨T2, P2, py2, R2, I2, Pd2, Wn2, G2⟩ := z2
            obtain ⟨xI2, xP2, xW2, xG2, u2, v2⟩ := q2
            have hP : va_P g.1 vwCl [(ua, .inr (1, [.ref ar, .int (nI cnt)])), (ar, .inl (g.2.2.1, 6, .inr (.inr (.inr (.inr rows))))), (h, .inr (0, [.int (nI rt), .int (nI lf), .ref pa, .ref da, .int (nI T2), .int (nI P2), .long (lN R2), .long xI2, .long xP2, .long xW2, .long xG2])), (pa, .inl (g.2.1, 120, .inl u2)), (da, .inl (g.2.1, 121, .inl v2))] H := hP
            have hD : va_D A [(ua, .inr (1, [.ref ar, .int (nI cnt)])), (ar, .inl (g.2.2.1, 6, .inr (.inr (.inr (.inr rows))))), (h, .inr (0, [.int (nI rt), .int (nI lf), .ref pa, .ref da, .int (nI T2), .int (nI P2), .long (lN R2), .long xI2, .long xP2, .long xW2, .long xG2])), (pa, .inl (g.2.1, 120, .inl u2)), (da, .inl (g.2.1, 121, .inl v2))] := hD
            have eT : T2 = T := by have z := zFol_T (r := rt) (T' := T) (p' := zSc (zA x1) py) (T := T) (P := P) (R := R0) (p := py) (I := I) (Pd := Pd) (W := Wn) (G := G); rw [hz2] at z; exact z
            have eP : P2 = P := by have z := zFol_P (r := rt) (T' := T) (p' := zSc (zA x1) py) (T := T) (P := P) (R := R0) (p := py) (I := I) (Pd := Pd) (W := Wn) (G := G); rw [hz2] at z; exact z
            have ep : py2 = zSc (zA x1) py := by have z := zFol_p (r := rt) (T' := T) (p' := zSc (zA x1) py) (T := T) (P := P) (R := R0) (p := py) (I := I) (Pd := Pd) (W := Wn) (G := G); rw [hz2] at z; exact z
            refine lv_aload_n hx hb dX1_review_47 rfl (lv_at hl 0 rfl) ?_
            refine z_ai (wa := [(ua, .inr (1, [.ref ar, .int (nI cnt)])), (ar, .inl (g.2.2.1, 6, .inr (.inr (.inr (.inr rows)))))]) (wc := [(h, .inr (0, [.int (nI rt), .int (nI lf), .ref pa, .ref da, .int (nI T2), .int (nI P2), .long (lN R2), .long xI2, .long xP2, .long xW2, .long xG2])), (pa, .inl (g.2.1, 120, .inl u2)), (da, .inl (g.2.1, 121, .inl v2))]) (wb := []) (va_runV (As := []) (rest := []) ⟨hx, hb, hml, hown, hts⟩ (c_debtNow l g h pa da rt lf T2 P2 (lN R2) xI2 xP2 xW2 xG2 u2 v2 (by omega) H.size _ rfl) (cwV 0 hts gX1_review_X0_debtNow rfl rfl rfl (by decide +kernel) ⟨Nat.le_of_ble_eq_true rfl, Nat.le_of_ble_eq_true rfl⟩) (zpreV (wa := [(ua, .inr (1, [.ref ar, .int (nI cnt)])), (ar, .inl (g.2.2.1, 6, .inr (.inr (.inr (.inr rows)))))]) (wc := [(h, .inr (0, [.int (nI rt), .int (nI lf), .ref pa, .ref da, .int (nI T2), .int (nI P2), .long (lN R2), .long xI2, .long xP2, .long xW2, .long xG2])), (pa, .inl (g.2.1, 120, .inl u2)), (da, .inl (g.2.1, 121, .inl v2))]) (wb := []) (q0 := 0) (ci := 0) (T := TX0) (N := 11) hK hP hD rfl rfl) rfl rfl hl.1 rfl (lv_room (Nat.le_of_ble_eq_true rfl)) dX1_review_48 ⟨Nat.le_of_ble_eq_true rfl, Nat.le_of_ble_eq_true rfl⟩) hP hD hS hA (fun r_5 w1 H locs hq hP hD hS => ?_)
            obtain ⟨rfl, rfl⟩ := hq
            have hP : va_P g.1 vwCl [(ua, .inr (1, [.ref ar, .int (nI cnt)])), (ar, .inl (g.2.2.1, 6, .inr (.inr (.inr (.inr rows))))), (h, .inr (0, [.int (nI rt), .int (nI lf), .ref pa, .ref da, .int (nI T2), .int (nI P2), .long (lN R2), .long xI2, .long xP2, .long xW2, .long xG2])), (pa, .inl (g.2.1, 120, .inl u2)), (da, .inl (g.2.1, 121, .inl v2))] H := hP
            have hD : va_D A [(ua, .inr (1, [.ref ar, .int (nI cnt)])), (ar, .inl (g.2.2.1, 6, .inr (.inr (.inr (.inr rows))))), (h, .inr (0, [.int (nI rt), .int (nI lf), .ref pa, .ref da, .int (nI T2), .int (nI P2), .long (lN R2), .long xI2, .long xP2, .long xW2, .long xG2])), (pa, .inl (g.2.1, 120, .inl u2)), (da, .inl (g.2.1, 121, .inl v2))] := hD
            refine zi (y := nI (zWr rt py2 T2 (T2 - P2))) (hC2.2.2.2.2.2 P2 (Nat.le_refl P2) (by omega)) ?_
            refine W.widen (k := 4) (n := 24) (by omega) (by omega) ?_
            exact z_xiret hx hb hr hP hK hD hS dX1_review_51 hlocks (⟨hrng, ⟨hlt, hok⟩, by rw [eT, eP, ep], (xI2, xP2, xW2, xG2, u2, v2), rfl, hC2⟩)
          · exact absurd rfl hc
