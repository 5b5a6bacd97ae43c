/-! the class Usewise: which lease -/
/-- no lease of that number -/
def zNo (rows : Nat → Option Nat) (x : Int32) : Prop := ∀ j h, j < 6 → x = nI j → rows j ≠ some h
theorem zNo_neg {rows : Nat → Option Nat} {x : Int32} (h : x < 0) : zNo rows x := fun j _ hj e _ => nI_pos (by omega) (e ▸ h)
theorem zNo_big {rows : Nat → Option Nat} {x : Int32} (h : ¬ x < nI 6) : zNo rows x := fun j _ hj e _ => h (e ▸ nI_lt hj (by decide))
theorem zNo_none {rows : Nat → Option Nat} {j : Nat} (hj : j < 6) (h : rows j = none) : zNo rows (nI j) := fun i h' hi e => by
  rw [(nI_eq (by omega) (by omega)).mp e] at h
  rw [h]; exact fun z => nomatch z
theorem z_nlt_of_le {a b : Int32} (h : b ≤ a) : ¬ a < b := by rw [Int32.lt_iff_toInt_lt]; rw [Int32.le_iff_toInt_le] at h; omega
set_option maxHeartbeats 4000000 in
set_option maxRecDepth 100000 in
theorem c_leaseOf (l : Launch) (hst : l.stackTraces = false) (g : zG) (ua ar cnt : Nat) (rows : Nat → Option Nat) (x0 : Int32)  : zXq l yX1_leaseOf wsX1_leaseOf ({ frames := 6, cells := 1, slots := 6, locals := 90 } : Room) [.ref ua, .int x0] g [(ua, .inr (1, [.ref ar, .int (nI cnt)])), (ar, .inl (g.2.2.1, 6, .inr (.inr (.inr (.inr rows)))))] (fun q w => (∃ j h, j < 6 ∧ x0 = nI j ∧ rows j = some h ∧ q = some h) ∧ w = [(ua, .inr (1, [.ref ar, .int (nI cnt)])), (ar, .inl (g.2.2.1, 6, .inr (.inr (.inr (.inr rows)))))]) (fun E => E = "java/lang/IndexOutOfBoundsException" ∧ zNo rows x0) 1 6 := by
  intro sz A hAe
  refine vx_ofW (cc := cX1_leaseOf) (maxL := 3) (ret := some (.object "Usewise$Lease")) (by decide) rfl ?_
  intro p e s m args below meth c s₁ B hml hout hv
  obtain ⟨rfl, ⟨hsz, hP, hK, hD0⟩, hX⟩ := hv
  have hx := B.exec
  have hb := B.bytes
  have hr := B.returns
  have hts := atoms_spec (ws := wsX1_leaseOf) B.pre
  have hown : s.vm.findClass RX1 = some m.cls := findClass_of_methodNamed B.named
  have hlocks := B.notSynchronized
  obtain ⟨hD, hA, hS⟩ := z_in hsz hAe hD0
  have hl := lv_entry ([.ref ua, .int x0]) (n := 3) (Nat.le_of_ble_eq_true rfl)
  rw [lg_entry_eq]
  generalize (lg_sl ([.ref ua, .int x0]) ++ List.replicate (3 - (lg_sl ([.ref ua, .int x0])).length) Slot.unset).toArray = ls at hl ⊢
  have hl : lv_has ls 3 [(0, .ref ua), (1, .int x0)] := hl
  have hinX1 : ∀ w ∈ wsX10, w ∈ wsX1_leaseOf := by decide +kernel
  refine lv_iload_n hx hb dX1_leaseOf_0 rfl (lv_at hl 1 rfl) ?_
  refine lv_if_lt (tgt := 13) hx hb dX1_leaseOf_1 (by decide) (fun hc => ?_) (fun hc => ?_)
  · exact z_throw (text := "no such lease") (Ts := wsX1_leaseOf) hx hb hst hown (by decide +kernel) hts (by decide +kernel) (by decide +kernel) (by decide +kernel) zbw_IOE zot_IOE_79 (by decide +kernel) hX hA hP hK hD hS (hl.1.trans hml.symm) dX1_leaseOf_13 dX1_leaseOf_16 dX1_leaseOf_17 dX1_leaseOf_19 dX1_leaseOf_22 hout (Nat.le_of_ble_eq_true rfl) (Nat.le_of_ble_eq_true rfl) (Nat.le_of_ble_eq_true rfl) (Nat.le_of_ble_eq_true rfl) hlocks (⟨rfl, zNo_neg hc⟩) (Nat.le_of_ble_eq_true rfl) (Nat.le_of_ble_eq_true rfl)
  · refine lv_iload_n hx hb dX1_leaseOf_4 rfl (lv_at hl 1 rfl) ?_
    refine lv_aload_n hx hb dX1_leaseOf_5 rfl (lv_at hl 0 rfl) ?_
    refine va_get (D := g.1) (ci := 1) (v := .ref ar) (C := RX1) (T := TX1) (N := 2) hx hb hts hinX1 hown hK hP 0 rfl rfl 0 (by decide) (hts (.fieldLink RX1 11 "Usewise" "leases" "[LUsewise$Lease;") (by decide +kernel)) (fun _ h9 => h9) rfl dX1_leaseOf_6 ?_
    refine va_alen (v := nI 6) hx hb hK hP 1 1 rfl rfl rfl dX1_leaseOf_9 ?_
    refine lv_icmp_lt (tgt := 23) hx hb dX1_leaseOf_10 (by decide) (fun hd => ?_) (fun hd => ?_)
    · obtain ⟨j, hj, rfl⟩ : ∃ j : Nat, j < 6 ∧ x0 = nI j := by
        rcases pk_ix x0 (n := 6) (by decide) with z | z | z
        · exact absurd z hc
        · exact absurd hd (z_nlt_of_le z)
        · exact z
      refine lv_aload_n hx hb dX1_leaseOf_23 rfl (lv_at hl 0 rfl) ?_
      refine va_get (D := g.1) (ci := 1) (v := .ref ar) (C := RX1) (T := TX1) (N := 2) hx hb hts hinX1 hown hK hP 0 rfl rfl 0 (by decide) (hts (.fieldLink RX1 11 "Usewise" "leases" "[LUsewise$Lease;") (by decide +kernel)) (fun _ h9 => h9) rfl dX1_leaseOf_24 ?_
      refine lv_iload_n hx hb dX1_leaseOf_27 rfl (lv_at hl 1 rfl) ?_
      refine z_aald hx hb hK hP 1 1 rfl rfl hj (by decide) dX1_leaseOf_28 ?_
      rcases hrow : rows j with _ | h
      · refine zqn ?_
        refine lv_astore_nN (lv' := [(2, .null), (0, .ref ua), (1, .int (nI j))]) hx hb dX1_leaseOf_29 rfl hl (by decide) rfl (fun ls hl => ?_)
        refine lv_aload_nN hx hb dX1_leaseOf_30 rfl (lv_at hl 0 rfl) ?_
        refine lv_ifnonnullN hx hb dX1_leaseOf_31 ?_
        exact z_throw (text := "no such lease") (Ts := wsX1_leaseOf) hx hb hst hown (by decide +kernel) hts (by decide +kernel) (by decide +kernel) (by decide +kernel) zbw_IOE zot_IOE_79 (by decide +kernel) hX hA hP hK hD hS (hl.1.trans hml.symm) dX1_leaseOf_34 dX1_leaseOf_37 dX1_leaseOf_38 dX1_leaseOf_40 dX1_leaseOf_43 hout (Nat.le_of_ble_eq_true rfl) (Nat.le_of_ble_eq_true rfl) (Nat.le_of_ble_eq_true rfl) (Nat.le_of_ble_eq_true rfl) hlocks (⟨rfl, zNo_none hj hrow⟩) (Nat.le_of_ble_eq_true rfl) (Nat.le_of_ble_eq_true rfl)
      · refine zqs ?_
        refine lv_astore_n (lv' := [(2, .ref h), (0, .ref ua), (1, .int (nI j))]) hx hb dX1_leaseOf_29 rfl hl (by decide) rfl (fun ls hl => ?_)
        refine lv_aload_n hx hb dX1_leaseOf_30 rfl (lv_at hl 0 rfl) ?_
        refine lv_ifnonnull (tgt := 44) hx hb dX1_leaseOf_31 (by decide) ?_
        refine lv_aload_n hx hb dX1_leaseOf_44 rfl (lv_at hl 0 rfl) ?_
        refine W.widen (k := 1) (n := 6) (by omega) (by omega) ?_
        exact z_xqret hx hb hr hP hK hD hS dX1_leaseOf_45 hlocks (⟨⟨j, h, hj, rfl, hrow, rfl⟩, rfl⟩)
    · exact z_throw (text := "no such lease") (Ts := wsX1_leaseOf) hx hb hst hown (by decide +kernel) hts (by decide +kernel) (by decide +kernel) (by decide +kernel) zbw_IOE zot_IOE_79 (by decide +kernel) hX hA hP hK hD hS (hl.1.trans hml.symm) dX1_leaseOf_13 dX1_leaseOf_16 dX1_leaseOf_17 dX1_leaseOf_19 dX1_leaseOf_22 hout (Nat.le_of_ble_eq_true rfl) (Nat.le_of_ble_eq_true rfl) (Nat.le_of_ble_eq_true rfl) (Nat.le_of_ble_eq_true rfl) hlocks (⟨rfl, zNo_big hd⟩) (Nat.le_of_ble_eq_true rfl) (Nat.le_of_ble_eq_true rfl)

set_option maxHeartbeats 4000000 in
set_option maxRecDepth 100000 in
theorem c_mustGoOn (l : Launch) (hst : l.stackTraces = false) (g : zG) (h pa da rt lf T P : Nat) (R xI xP xW xG : Int64) (u v : Nat → Int32) (hPT : P ≤ T) (hT : T ≤ 120) : zXv l yX1_mustGoOn wsX1_mustGoOn ({ frames := 6, cells := 1, slots := 6, locals := 90 } : Room) [.ref h] g [(h, .inr (0, [.int (nI rt), .int (nI lf), .ref pa, .ref da, .int (nI T), .int (nI P), .long R, .long xI, .long xP, .long xW, .long xG])), (pa, .inl (g.2.1, 120, .inl u)), (da, .inl (g.2.1, 121, .inl v))] (fun w => P < T ∧ w = [(h, .inr (0, [.int (nI rt), .int (nI lf), .ref pa, .ref da, .int (nI T), .int (nI P), .long R, .long xI, .long xP, .long xW, .long xG])), (pa, .inl (g.2.1, 120, .inl u)), (da, .inl (g.2.1, 121, .inl v))]) (fun E => E = "java/lang/IllegalStateException" ∧ P = T) 1 6 := by
  intro sz A hAe
  refine vx_ofW (cc := cX1_mustGoOn) (maxL := 1) (ret := none) (by decide) rfl ?_
  intro p e s m args below meth c s₁ B hml hout hv
  obtain ⟨rfl, ⟨hsz, hP, hK, hD0⟩, hX⟩ := hv
  have hx := B.exec
  have hb := B.bytes
  have hr := B.returns
  have hts := atoms_spec (ws := wsX1_mustGoOn) B.pre
  have hown : s.vm.findClass RX1 = some m.cls := findClass_of_methodNamed B.named
  have hlocks := B.notSynchronized
  obtain ⟨hD, hA, hS⟩ := z_in hsz hAe hD0
  have hl := lv_entry ([.ref h]) (n := 1) (Nat.le_of_ble_eq_true rfl)
  rw [lg_entry_eq]
  generalize (lg_sl ([.ref h]) ++ List.replicate (1 - (lg_sl ([.ref h])).length) Slot.unset).toArray = ls at hl ⊢
  have hl : lv_has ls 1 [(0, .ref h)] := hl
  have hinX0 : ∀ w ∈ wsX00, w ∈ wsX1_mustGoOn := by decide +kernel
  refine lv_aload_n hx hb dX1_mustGoOn_0 rfl (lv_at hl 0 rfl) ?_
  refine z_ai (wa := []) (wc := [(h, .inr (0, [.int (nI rt), .int (nI lf), .ref pa, .ref da, .int (nI T), .int (nI P), .long R, .long xI, .long xP, .long xW, .long xG])), (pa, .inl (g.2.1, 120, .inl u)), (da, .inl (g.2.1, 121, .inl v))]) (wb := []) (va_runV (As := []) (rest := []) ⟨hx, hb, hml, hown, hts⟩ (c_monthsLeft l g h pa da rt lf T P R xI xP xW xG u v hPT s.heap.size _ rfl) (cwV 0 hts gX1_mustGoOn_X0_monthsLeft rfl rfl rfl (by decide +kernel) ⟨Nat.le_of_ble_eq_true rfl, Nat.le_of_ble_eq_true rfl⟩) (zpreV (wa := []) (wc := [(h, .inr (0, [.int (nI rt), .int (nI lf), .ref pa, .ref da, .int (nI T), .int (nI P), .long R, .long xI, .long xP, .long xW, .long xG])), (pa, .inl (g.2.1, 120, .inl u)), (da, .inl (g.2.1, 121, .inl v))]) (wb := []) (q0 := 0) (ci := 0) (T := TX0) (N := 11) hK hP hD rfl rfl) rfl rfl hl.1 rfl (lv_room (Nat.le_of_ble_eq_true rfl)) dX1_mustGoOn_1 ⟨Nat.le_of_ble_eq_true rfl, Nat.le_of_ble_eq_true rfl⟩) hP hD hS hA (fun r_1 w1 H locs hq hP hD hS => ?_)
  obtain ⟨rfl, rfl⟩ := hq
  have hP : va_P g.1 vwCl [(h, .inr (0, [.int (nI rt), .int (nI lf), .ref pa, .ref da, .int (nI T), .int (nI P), .long R, .long xI, .long xP, .long xW, .long xG])), (pa, .inl (g.2.1, 120, .inl u)), (da, .inl (g.2.1, 121, .inl v))] H := hP
  have hD : va_D A [(h, .inr (0, [.int (nI rt), .int (nI lf), .ref pa, .ref da, .int (nI T), .int (nI P), .long R, .long xI, .long xP, .long xW, .long xG])), (pa, .inl (g.2.1, 120, .inl u)), (da, .inl (g.2.1, 121, .inl v))] := hD
  refine z_if_ne (tgt := 17) hx hb dX1_mustGoOn_4 (by decide) (by omega) (fun hc => ?_) (fun hc => ?_)
  · refine W.widen (k := 1) (n := 6) (by omega) (by omega) ?_
    exact z_xvret hx hb hr hP hK hD hS dX1_mustGoOn_17 hlocks (⟨by omega, rfl⟩)
  · exact z_throw (text := "the lease is over") (Ts := wsX1_mustGoOn) hx hb hst hown (by decide +kernel) hts (by decide +kernel) (by decide +kernel) (by decide +kernel) zbw_ISE zot_ISE_23 (by decide +kernel) hX hA hP hK hD hS (hl.1.trans hml.symm) dX1_mustGoOn_7 dX1_mustGoOn_10 dX1_mustGoOn_11 dX1_mustGoOn_13 dX1_mustGoOn_16 hout (Nat.le_of_ble_eq_true rfl) (Nat.le_of_ble_eq_true rfl) (Nat.le_of_ble_eq_true rfl) (Nat.le_of_ble_eq_true rfl) hlocks (⟨rfl, by omega⟩) (Nat.le_of_ble_eq_true rfl) (Nat.le_of_ble_eq_true rfl)
