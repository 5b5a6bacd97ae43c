/-! the class of a lease: debts laid, payments scaled -/
set_option maxHeartbeats 4000000 in
set_option maxRecDepth 100000 in
theorem c_layDebts (l : Launch) (g : zG) (h pa da rt lf T P : Nat) (R xI xP xW xG : Int64) (u v : Nat → Int32) (py : Nat → Nat) (hT : T ≤ 120) (hPT : P ≤ T) (hp : ∀ j, P ≤ j → j < T → py j ≤ 1000000) (hu : ∀ j, P ≤ j → j < T → u j = nI (py j)) (hrt : rt ≤ 20000) : zMv l yX0_layDebts wsX0_layDebts ({ frames := 1, cells := 0, slots := 0, locals := 24 } : Room) [.ref h] g [(h, .inr (0, [.int (nI rt), .int (nI lf), .ref pa, .ref da, .int (nI T), .int (nI P), .long R, .long xI, .long xP, .long xW, .long xG])), (pa, .inl (g.2.1, 120, .inl u)), (da, .inl (g.2.1, 121, .inl v))] (fun w => ∃ v' : Nat → Int32, w = [(h, .inr (0, [.int (nI rt), .int (nI lf), .ref pa, .ref da, .int (nI T), .int (nI P), .long R, .long xI, .long xP, .long xW, .long xG])), (pa, .inl (g.2.1, 120, .inl u)), (da, .inl (g.2.1, 121, .inl v'))] ∧ ∀ j, P ≤ j → j ≤ T → v' j = nI (zWr rt py T (T - j))) 0 0 := by
  intro sz A hAe
  refine Met.ofW (cc := cX0_layDebts) (maxL := 4) (ret := none) (by decide) rfl ?_
  intro p e s m args below meth c s₁ B hml hv
  obtain ⟨rfl, hsz, hP, hK, hD0⟩ := hv
  have hx := B.exec
  have hb := B.bytes
  have hr := B.returns
  have hts := atoms_spec (ws := wsX0_layDebts) B.pre
  have hown : s.vm.findClass RX0 = some m.cls := findClass_of_methodNamed B.named
  have hlocks := B.notSynchronized
  obtain ⟨hD, hA, hS⟩ := z_in hsz hAe hD0
  have hl := lv_entry ([.ref h]) (n := 4) (Nat.le_of_ble_eq_true rfl)
  rw [lg_entry_eq]
  generalize (lg_sl ([.ref h]) ++ List.replicate (4 - (lg_sl ([.ref h])).length) Slot.unset).toArray = ls at hl ⊢
  have hl : lv_has ls 4 [(0, .ref h)] := hl
  have hinX0 : ∀ w ∈ wsX00, w ∈ wsX0_layDebts := by decide +kernel
  refine lv_aload_n hx hb dX0_layDebts_0 rfl (lv_at hl 0 rfl) ?_
  refine va_get (D := g.1) (ci := 0) (v := .ref da) (C := RX0) (T := TX0) (N := 11) hx hb hts hinX0 hown hK hP 0 rfl rfl 3 (by decide) (hts (.fieldLink RX0 34 "Usewise$Lease" "debts" "[I") (by decide +kernel)) (fun _ h9 => h9) rfl dX0_layDebts_1 ?_
  refine lv_aload_n hx hb dX0_layDebts_4 rfl (lv_at hl 0 rfl) ?_
  refine va_get (D := g.1) (ci := 0) (v := .int (nI T)) (C := RX0) (T := TX0) (N := 11) hx hb hts hinX0 hown hK hP 0 rfl rfl 4 (by decide) (hts (.fieldLink RX0 27 "Usewise$Lease" "term" "I") (by decide +kernel)) (fun _ h9 => h9) rfl dX0_layDebts_5 ?_
  refine lv_iconst (v := nI 0) hx hb dX0_layDebts_8 (by decide) ?_
  refine z_av (wa := [(h, .inr (0, [.int (nI rt), .int (nI lf), .ref pa, .ref da, .int (nI T), .int (nI P), .long R, .long xI, .long xP, .long xW, .long xG])), (pa, .inl (g.2.1, 120, .inl u))]) (wc := [(da, .inl (g.2.1, 121, .inl v))]) (wb := []) (va_runS (As := [.ref da, .int (nI T), .int (nI 0)]) (rest := []) ⟨hx, hb, hml, hown, hts⟩ (c_put l g da 121 T (nI 0) v (by omega) (by decide) s.heap.size _ rfl) (va_cwS 3 hts gX0_layDebts_X0_put rfl rfl rfl (by decide +kernel) ⟨Nat.le_of_ble_eq_true rfl, Nat.le_of_ble_eq_true rfl⟩) (zpreS (wa := [(h, .inr (0, [.int (nI rt), .int (nI lf), .ref pa, .ref da, .int (nI T), .int (nI P), .long R, .long xI, .long xP, .long xW, .long xG])), (pa, .inl (g.2.1, 120, .inl u))]) (wc := [(da, .inl (g.2.1, 121, .inl v))]) (wb := []) hK hP hD) rfl rfl hl.1 rfl (lv_room (Nat.le_of_ble_eq_true rfl)) dX0_layDebts_9 ⟨Nat.le_of_ble_eq_true rfl, Nat.le_of_ble_eq_true rfl⟩) hP hD hS hA (fun w1 H locs hq hP hD hS => ?_)
  obtain rfl := hq
  have hP : va_P g.1 vwCl [(h, .inr (0, [.int (nI rt), .int (nI lf), .ref pa, .ref da, .int (nI T), .int (nI P), .long R, .long xI, .long xP, .long xW, .long xG])), (pa, .inl (g.2.1, 120, .inl u)), (da, .inl (g.2.1, 121, .inl (upd v T (nI 0))))] H := hP
  have hD : va_D A [(h, .inr (0, [.int (nI rt), .int (nI lf), .ref pa, .ref da, .int (nI T), .int (nI P), .long R, .long xI, .long xP, .long xW, .long xG])), (pa, .inl (g.2.1, 120, .inl u)), (da, .inl (g.2.1, 121, .inl (upd v T (nI 0))))] := hD
  refine lv_aload_n hx hb dX0_layDebts_12 rfl (lv_at hl 0 rfl) ?_
  refine va_get (D := g.1) (ci := 0) (v := .int (nI T)) (C := RX0) (T := TX0) (N := 11) hx hb hts hinX0 hown hK hP 0 rfl rfl 4 (by decide) (hts (.fieldLink RX0 27 "Usewise$Lease" "term" "I") (by decide +kernel)) (fun _ h9 => h9) rfl dX0_layDebts_13 ?_
  refine lv_iconst (v := nI 1) hx hb dX0_layDebts_16 (by decide) ?_
  refine lv_isub hx hb dX0_layDebts_17 ?_
  refine zi (y := nI T + (-1)) (z_m1 T) ?_
  refine lv_istore_n (lv' := [(1, .int (nI T + (-1))), (0, .ref h)]) hx hb dX0_layDebts_18 rfl hl (by decide) rfl (fun ls hl => ?_)
  have loop : ∀ (n : Nat) (k : Nat) (v2 : Nat → Int32) (H : Heap) (locs : List Loc) (ls : Array Slot), k < n → P ≤ k → k ≤ T → (∀ j, k ≤ j → j ≤ T → v2 j = nI (zWr rt py T (T - j))) → va_P g.1 vwCl [(h, .inr (0, [.int (nI rt), .int (nI lf), .ref pa, .ref da, .int (nI T), .int (nI P), .long R, .long xI, .long xP, .long xW, .long xG])), (pa, .inl (g.2.1, 120, .inl u)), (da, .inl (g.2.1, 121, .inl v2))] H → va_D A [(h, .inr (0, [.int (nI rt), .int (nI lf), .ref pa, .ref da, .int (nI T), .int (nI P), .long R, .long xI, .long xP, .long xW, .long xG])), (pa, .inl (g.2.1, 120, .inl u)), (da, .inl (g.2.1, 121, .inl v2))] → va_S A s.heap H locs → lv_has ls 4 [(1, .int (nI k + (-1))), (0, .ref h)] → W p l e (headSpec wsX0_layDebts ({ frames := 1, cells := 0, slots := 0, locals := 24 } : Room)).room s m ([.ref h] : List Value).toArray below meth c H locs 0 0 (MQ below (va_Qv (fun w => ∃ v' : Nat → Int32, w = [(h, .inr (0, [.int (nI rt), .int (nI lf), .ref pa, .ref da, .int (nI T), .int (nI P), .long R, .long xI, .long xP, .long xW, .long xG])), (pa, .inl (g.2.1, 120, .inl u)), (da, .inl (g.2.1, 121, .inl v'))] ∧ ∀ j, P ≤ j → j ≤ T → v' j = nI (zWr rt py T (T - j))) (zOut g A) A) ([.ref h] : List Value).toArray s 0 0 A) (F0 m 19 ls []) := by
    intro n
    induction n with
    | zero =>
      intro k v2 H locs ls hn hk1 hk2 hv hP hD hS hl
      omega
    | succ n ih =>
      intro k v2 H locs ls hn hk1 hk2 hv hP hD hS hl
      refine lv_iload_n hx hb dX0_layDebts_19 rfl (lv_at hl 0 rfl) ?_
      refine lv_aload_n hx hb dX0_layDebts_20 rfl (lv_at hl 1 rfl) ?_
      refine va_get (D := g.1) (ci := 0) (v := .int (nI P)) (C := RX0) (T := TX0) (N := 11) hx hb hts hinX0 hown hK hP 0 rfl rfl 5 (by decide) (hts (.fieldLink RX0 52 "Usewise$Lease" "past" "I") (by decide +kernel)) (fun _ h9 => h9) rfl dX0_layDebts_21 ?_
      refine lv_icmp_lt (tgt := 72) hx hb dX0_layDebts_24 (by decide) (fun hc => ?_) (fun hc => ?_)
      · have hk : k = P := by have := (z_dlt (by omega) (by omega)).mp hc; omega
        subst hk
        exact z_vret hx hb hr hP hK hD hS dX0_layDebts_72 hlocks (⟨v2, rfl, hv⟩)
      · have hk : P < k := by have := mt (z_dlt (by omega) (by omega)).mpr hc; omega
        obtain ⟨j, rfl⟩ : ∃ j, k = j + 1 := ⟨k - 1, by omega⟩
        have hpj := hp j (by omega) (by omega)
        have hwj := z_wb (r := rt) (j := j + 1) hT hp (by omega)
        refine lv_aload_n hx hb dX0_layDebts_27 rfl (lv_at hl 1 rfl) ?_
        refine va_get (D := g.1) (ci := 0) (v := .ref da) (C := RX0) (T := TX0) (N := 11) hx hb hts hinX0 hown hK hP 0 rfl rfl 3 (by decide) (hts (.fieldLink RX0 34 "Usewise$Lease" "debts" "[I") (by decide +kernel)) (fun _ h9 => h9) rfl dX0_layDebts_28 ?_
        refine lv_iload_n hx hb dX0_layDebts_31 rfl (lv_at hl 0 rfl) ?_
        refine zi (y := nI j) (pk_m1 j) ?_
        refine lv_iconst (v := nI 1) hx hb dX0_layDebts_32 (by decide) ?_
        refine z_iadd hx hb dX0_layDebts_33 ?_
        refine z_ai (wa := [(h, .inr (0, [.int (nI rt), .int (nI lf), .ref pa, .ref da, .int (nI T), .int (nI P), .long R, .long xI, .long xP, .long xW, .long xG])), (pa, .inl (g.2.1, 120, .inl u))]) (wc := [(da, .inl (g.2.1, 121, .inl v2))]) (wb := []) (va_runS (As := [.ref da, .int (nI (j + 1))]) (rest := []) ⟨hx, hb, hml, hown, hts⟩ (c_at l g da 121 (j + 1) v2 (by omega) (by decide) H.size _ rfl) (va_cwS 2 hts gX0_layDebts_X0_at rfl rfl rfl (by decide +kernel) ⟨Nat.le_of_ble_eq_true rfl, Nat.le_of_ble_eq_true rfl⟩) (zpreS (wa := [(h, .inr (0, [.int (nI rt), .int (nI lf), .ref pa, .ref da, .int (nI T), .int (nI P), .long R, .long xI, .long xP, .long xW, .long xG])), (pa, .inl (g.2.1, 120, .inl u))]) (wc := [(da, .inl (g.2.1, 121, .inl v2))]) (wb := []) hK hP hD) rfl rfl hl.1 rfl (lv_room (Nat.le_of_ble_eq_true rfl)) dX0_layDebts_34 ⟨Nat.le_of_ble_eq_true rfl, Nat.le_of_ble_eq_true rfl⟩) hP hD hS hA (fun r_2 w1 H locs hq hP hD hS => ?_)
        obtain ⟨rfl, rfl⟩ := hq
        have hP : va_P g.1 vwCl [(h, .inr (0, [.int (nI rt), .int (nI lf), .ref pa, .ref da, .int (nI T), .int (nI P), .long R, .long xI, .long xP, .long xW, .long xG])), (pa, .inl (g.2.1, 120, .inl u)), (da, .inl (g.2.1, 121, .inl v2))] H := hP
        have hD : va_D A [(h, .inr (0, [.int (nI rt), .int (nI lf), .ref pa, .ref da, .int (nI T), .int (nI P), .long R, .long xI, .long xP, .long xW, .long xG])), (pa, .inl (g.2.1, 120, .inl u)), (da, .inl (g.2.1, 121, .inl v2))] := hD
        refine zi (y := nI (zWr rt py T (T - (j + 1)))) (hv (j + 1) (by omega) (by omega)) ?_
        refine z_i2l hx hb dX0_layDebts_37 (by omega) ?_
        refine lv_aload_n hx hb dX0_layDebts_38 rfl (lv_at hl 1 rfl) ?_
        refine va_get (D := g.1) (ci := 0) (v := .ref pa) (C := RX0) (T := TX0) (N := 11) hx hb hts hinX0 hown hK hP 0 rfl rfl 2 (by decide) (hts (.fieldLink RX0 30 "Usewise$Lease" "payments" "[I") (by decide +kernel)) (fun _ h9 => h9) rfl dX0_layDebts_39 ?_
        refine lv_iload_n hx hb dX0_layDebts_42 rfl (lv_at hl 0 rfl) ?_
        refine zi (y := nI j) (pk_m1 j) ?_
        refine z_ai (wa := [(h, .inr (0, [.int (nI rt), .int (nI lf), .ref pa, .ref da, .int (nI T), .int (nI P), .long R, .long xI, .long xP, .long xW, .long xG]))]) (wc := [(pa, .inl (g.2.1, 120, .inl u))]) (wb := [(da, .inl (g.2.1, 121, .inl v2))]) (va_runS (As := [.ref pa, .int (nI j)]) (rest := [.long (lN (zWr rt py T (T - (j + 1))))]) ⟨hx, hb, hml, hown, hts⟩ (c_at l g pa 120 j u (by omega) (by decide) H.size _ rfl) (va_cwS 2 hts gX0_layDebts_X0_at rfl rfl rfl (by decide +kernel) ⟨Nat.le_of_ble_eq_true rfl, Nat.le_of_ble_eq_true rfl⟩) (zpreS (wa := [(h, .inr (0, [.int (nI rt), .int (nI lf), .ref pa, .ref da, .int (nI T), .int (nI P), .long R, .long xI, .long xP, .long xW, .long xG]))]) (wc := [(pa, .inl (g.2.1, 120, .inl u))]) (wb := [(da, .inl (g.2.1, 121, .inl v2))]) hK hP hD) rfl rfl hl.1 rfl (lv_room (Nat.le_of_ble_eq_true rfl)) dX0_layDebts_43 ⟨Nat.le_of_ble_eq_true rfl, Nat.le_of_ble_eq_true rfl⟩) hP hD hS hA (fun r_3 w1 H locs hq hP hD hS => ?_)
        obtain ⟨rfl, rfl⟩ := hq
        have hP : va_P g.1 vwCl [(h, .inr (0, [.int (nI rt), .int (nI lf), .ref pa, .ref da, .int (nI T), .int (nI P), .long R, .long xI, .long xP, .long xW, .long xG])), (pa, .inl (g.2.1, 120, .inl u)), (da, .inl (g.2.1, 121, .inl v2))] H := hP
        have hD : va_D A [(h, .inr (0, [.int (nI rt), .int (nI lf), .ref pa, .ref da, .int (nI T), .int (nI P), .long R, .long xI, .long xP, .long xW, .long xG])), (pa, .inl (g.2.1, 120, .inl u)), (da, .inl (g.2.1, 121, .inl v2))] := hD
        refine zi (y := nI (py j)) (hu j (by omega) (by omega)) ?_
        refine z_i2l hx hb dX0_layDebts_46 (by omega) ?_
        refine z_ladd hx hb dX0_layDebts_47 ?_
        refine lv_lstore_n (lv' := [(2, .long (lN (zWr rt py T (T - (j + 1)) + (py j)))), (1, .int (nI (j + 1) + (-1))), (0, .ref h)]) hx hb dX0_layDebts_48 rfl hl (by decide) rfl (fun ls hl => ?_)
        refine lv_aload_n hx hb dX0_layDebts_49 rfl (lv_at hl 2 rfl) ?_
        refine va_get (D := g.1) (ci := 0) (v := .ref da) (C := RX0) (T := TX0) (N := 11) hx hb hts hinX0 hown hK hP 0 rfl rfl 3 (by decide) (hts (.fieldLink RX0 34 "Usewise$Lease" "debts" "[I") (by decide +kernel)) (fun _ h9 => h9) rfl dX0_layDebts_50 ?_
        refine lv_iload_n hx hb dX0_layDebts_53 rfl (lv_at hl 1 rfl) ?_
        refine zi (y := nI j) (pk_m1 j) ?_
        refine lv_lload_n hx hb dX0_layDebts_54 rfl (lv_at hl 0 rfl) ?_
        refine lv_aload_n hx hb dX0_layDebts_55 rfl (lv_at hl 2 rfl) ?_
        refine va_get (D := g.1) (ci := 0) (v := .int (nI rt)) (C := RX0) (T := TX0) (N := 11) hx hb hts hinX0 hown hK hP 0 rfl rfl 0 (by decide) (hts (.fieldLink RX0 9 "Usewise$Lease" "rate" "I") (by decide +kernel)) (fun _ h9 => h9) rfl dX0_layDebts_56 ?_
        refine z_al (wa := [(h, .inr (0, [.int (nI rt), .int (nI lf), .ref pa, .ref da, .int (nI T), .int (nI P), .long R, .long xI, .long xP, .long xW, .long xG])), (pa, .inl (g.2.1, 120, .inl u)), (da, .inl (g.2.1, 121, .inl v2))]) (wc := []) (wb := []) (va_runS (As := [.long (lN (zWr rt py T (T - (j + 1)) + (py j))), .int (nI rt)]) (rest := [.int (nI j), .ref da]) ⟨hx, hb, hml, hown, hts⟩ (c_worthBefore l g (zWr rt py T (T - (j + 1)) + py j) rt hrt (by omega) H.size _ rfl) (va_cwS 2 hts gX0_layDebts_X0_worthBefore rfl rfl rfl (by decide +kernel) ⟨Nat.le_of_ble_eq_true rfl, Nat.le_of_ble_eq_true rfl⟩) (zpreS (wa := [(h, .inr (0, [.int (nI rt), .int (nI lf), .ref pa, .ref da, .int (nI T), .int (nI P), .long R, .long xI, .long xP, .long xW, .long xG])), (pa, .inl (g.2.1, 120, .inl u)), (da, .inl (g.2.1, 121, .inl v2))]) (wc := []) (wb := []) hK hP hD) rfl rfl hl.1 rfl (lv_room (Nat.le_of_ble_eq_true rfl)) dX0_layDebts_59 ⟨Nat.le_of_ble_eq_true rfl, Nat.le_of_ble_eq_true rfl⟩) hP hD hS hA (fun r_4 w1 H locs hq hP hD hS => ?_)
        obtain ⟨rfl, rfl⟩ := hq
        have hP : va_P g.1 vwCl [(h, .inr (0, [.int (nI rt), .int (nI lf), .ref pa, .ref da, .int (nI T), .int (nI P), .long R, .long xI, .long xP, .long xW, .long xG])), (pa, .inl (g.2.1, 120, .inl u)), (da, .inl (g.2.1, 121, .inl v2))] H := hP
        have hD : va_D A [(h, .inr (0, [.int (nI rt), .int (nI lf), .ref pa, .ref da, .int (nI T), .int (nI P), .long R, .long xI, .long xP, .long xW, .long xG])), (pa, .inl (g.2.1, 120, .inl u)), (da, .inl (g.2.1, 121, .inl v2))] := hD
        refine zl (y := lN (zWr rt py T (T - j))) (by rw [zWr_at rt py (by omega : j < T)]) ?_
        refine z_l2i hx hb dX0_layDebts_62 ?_
        refine z_av (wa := [(h, .inr (0, [.int (nI rt), .int (nI lf), .ref pa, .ref da, .int (nI T), .int (nI P), .long R, .long xI, .long xP, .long xW, .long xG])), (pa, .inl (g.2.1, 120, .inl u))]) (wc := [(da, .inl (g.2.1, 121, .inl v2))]) (wb := []) (va_runS (As := [.ref da, .int (nI j), .int (nI (zWr rt py T (T - j)))]) (rest := []) ⟨hx, hb, hml, hown, hts⟩ (c_put l g da 121 j (nI (zWr rt py T (T - j))) v2 (by omega) (by decide) H.size _ rfl) (va_cwS 3 hts gX0_layDebts_X0_put rfl rfl rfl (by decide +kernel) ⟨Nat.le_of_ble_eq_true rfl, Nat.le_of_ble_eq_true rfl⟩) (zpreS (wa := [(h, .inr (0, [.int (nI rt), .int (nI lf), .ref pa, .ref da, .int (nI T), .int (nI P), .long R, .long xI, .long xP, .long xW, .long xG])), (pa, .inl (g.2.1, 120, .inl u))]) (wc := [(da, .inl (g.2.1, 121, .inl v2))]) (wb := []) hK hP hD) rfl rfl hl.1 rfl (lv_room (Nat.le_of_ble_eq_true rfl)) dX0_layDebts_63 ⟨Nat.le_of_ble_eq_true rfl, Nat.le_of_ble_eq_true rfl⟩) hP hD hS hA (fun w1 H locs hq hP hD hS => ?_)
        obtain rfl := hq
        have hP : va_P g.1 vwCl [(h, .inr (0, [.int (nI rt), .int (nI lf), .ref pa, .ref da, .int (nI T), .int (nI P), .long R, .long xI, .long xP, .long xW, .long xG])), (pa, .inl (g.2.1, 120, .inl u)), (da, .inl (g.2.1, 121, .inl (upd v2 j (nI (zWr rt py T (T - j))))))] H := hP
        have hD : va_D A [(h, .inr (0, [.int (nI rt), .int (nI lf), .ref pa, .ref da, .int (nI T), .int (nI P), .long R, .long xI, .long xP, .long xW, .long xG])), (pa, .inl (g.2.1, 120, .inl u)), (da, .inl (g.2.1, 121, .inl (upd v2 j (nI (zWr rt py T (T - j))))))] := hD
        refine lv_iinc (v := nI j + (-1)) (lv' := [(1, .int (nI j + (-1))), (2, .long (lN (zWr rt py T (T - (j + 1)) + (py j)))), (0, .ref h)]) hx hb dX0_layDebts_66 hl (k := 1) rfl (by rw [pk_m1 j]; rfl) (by decide) rfl (fun ls hl => ?_)
        refine lv_goto (tgt := 19) hx hb dX0_layDebts_69 (by decide) ?_
        exact ih j (upd v2 j (nI (zWr rt py T (T - j)))) H _ _ (by omega) (by omega) (by omega) (fun i h1 h2 => if hi : i = j then (by rw [hi, z_upd_s]) else (by rw [z_upd_n _ _ hi]; exact hv i (by omega) h2)) hP hD hS (lv_sub hl [0, 2] rfl)
  exact loop (T + 1) T _ H _ _ (by omega) (by omega) (by omega) (fun j h1 h2 => (by rw [Nat.le_antisymm h2 h1, z_upd_s, Nat.sub_self]; rfl)) hP hD hS (lv_sub hl [0, 1] rfl)

set_option maxHeartbeats 4000000 in
set_option maxRecDepth 100000 in
theorem c_scalePayments (l : Launch) (g : zG) (h pa da rt lf T P : Nat) (R xI xP xW xG : Int64) (u v : Nat → Int32) (py : Nat → Nat) (a0 : Nat) (hT : T ≤ 120) (hPT : P ≤ T) (hp : ∀ j, P ≤ j → j < T → py j ≤ 1000000) (hu : ∀ j, P ≤ j → j < T → u j = nI (py j)) (ha0 : a0 ≤ 200) : zMv l yX0_scalePayments wsX0_scalePayments ({ frames := 1, cells := 0, slots := 0, locals := 22 } : Room) [.ref h, .int (nI a0)] g [(h, .inr (0, [.int (nI rt), .int (nI lf), .ref pa, .ref da, .int (nI T), .int (nI P), .long R, .long xI, .long xP, .long xW, .long xG])), (pa, .inl (g.2.1, 120, .inl u)), (da, .inl (g.2.1, 121, .inl v))] (fun w => ∃ u' : Nat → Int32, w = [(h, .inr (0, [.int (nI rt), .int (nI lf), .ref pa, .ref da, .int (nI T), .int (nI P), .long R, .long xI, .long xP, .long xW, .long xG])), (pa, .inl (g.2.1, 120, .inl u')), (da, .inl (g.2.1, 121, .inl v))] ∧ ∀ j, P ≤ j → j < T → u' j = nI (zSc a0 py j)) 0 0 := by
  intro sz A hAe
  refine Met.ofW (cc := cX0_scalePayments) (maxL := 3) (ret := none) (by decide) rfl ?_
  intro p e s m args below meth c s₁ B hml hv
  obtain ⟨rfl, hsz, hP, hK, hD0⟩ := hv
  have hx := B.exec
  have hb := B.bytes
  have hr := B.returns
  have hts := atoms_spec (ws := wsX0_scalePayments) B.pre
  have hown : s.vm.findClass RX0 = some m.cls := findClass_of_methodNamed B.named
  have hlocks := B.notSynchronized
  obtain ⟨hD, hA, hS⟩ := z_in hsz hAe hD0
  have hl := lv_entry ([.ref h, .int (nI a0)]) (n := 3) (Nat.le_of_ble_eq_true rfl)
  rw [lg_entry_eq]
  generalize (lg_sl ([.ref h, .int (nI a0)]) ++ List.replicate (3 - (lg_sl ([.ref h, .int (nI a0)])).length) Slot.unset).toArray = ls at hl ⊢
  have hl : lv_has ls 3 [(0, .ref h), (1, .int (nI a0))] := hl
  have hinX0 : ∀ w ∈ wsX00, w ∈ wsX0_scalePayments := by decide +kernel
  refine lv_aload_n hx hb dX0_scalePayments_0 rfl (lv_at hl 0 rfl) ?_
  refine va_get (D := g.1) (ci := 0) (v := .int (nI P)) (C := RX0) (T := TX0) (N := 11) hx hb hts hinX0 hown hK hP 0 rfl rfl 5 (by decide) (hts (.fieldLink RX0 52 "Usewise$Lease" "past" "I") (by decide +kernel)) (fun _ h9 => h9) rfl dX0_scalePayments_1 ?_
  refine lv_istore_n (lv' := [(2, .int (nI P)), (0, .ref h), (1, .int (nI a0))]) hx hb dX0_scalePayments_4 rfl hl (by decide) rfl (fun ls hl => ?_)
  have loop : ∀ (n : Nat) (k : Nat) (u2 : Nat → Int32) (H : Heap) (locs : List Loc) (ls : Array Slot), T < k + n → P ≤ k → k ≤ T → (∀ j, P ≤ j → j < k → u2 j = nI (zSc a0 py j)) → (∀ j, k ≤ j → j < T → u2 j = nI (py j)) → va_P g.1 vwCl [(h, .inr (0, [.int (nI rt), .int (nI lf), .ref pa, .ref da, .int (nI T), .int (nI P), .long R, .long xI, .long xP, .long xW, .long xG])), (pa, .inl (g.2.1, 120, .inl u2)), (da, .inl (g.2.1, 121, .inl v))] H → va_D A [(h, .inr (0, [.int (nI rt), .int (nI lf), .ref pa, .ref da, .int (nI T), .int (nI P), .long R, .long xI, .long xP, .long xW, .long xG])), (pa, .inl (g.2.1, 120, .inl u2)), (da, .inl (g.2.1, 121, .inl v))] → va_S A s.heap H locs → lv_has ls 3 [(2, .int (nI k)), (0, .ref h), (1, .int (nI a0))] → W p l e (headSpec wsX0_scalePayments ({ frames := 1, cells := 0, slots := 0, locals := 22 } : Room)).room s m ([.ref h, .int (nI a0)] : List Value).toArray below meth c H locs 0 0 (MQ below (va_Qv (fun w => ∃ u' : Nat → Int32, w = [(h, .inr (0, [.int (nI rt), .int (nI lf), .ref pa, .ref da, .int (nI T), .int (nI P), .long R, .long xI, .long xP, .long xW, .long xG])), (pa, .inl (g.2.1, 120, .inl u')), (da, .inl (g.2.1, 121, .inl v))] ∧ ∀ j, P ≤ j → j < T → u' j = nI (zSc a0 py j)) (zOut g A) A) ([.ref h, .int (nI a0)] : List Value).toArray s 0 0 A) (F0 m 5 ls []) := by
    intro n
    induction n with
    | zero =>
      intro k u2 H locs ls hn hk1 hk2 hv1 hv2 hP hD hS hl
      omega
    | succ n ih =>
      intro k u2 H locs ls hn hk1 hk2 hv1 hv2 hP hD hS hl
      refine lv_iload_n hx hb dX0_scalePayments_5 rfl (lv_at hl 0 rfl) ?_
      refine lv_aload_n hx hb dX0_scalePayments_6 rfl (lv_at hl 1 rfl) ?_
      refine va_get (D := g.1) (ci := 0) (v := .int (nI T)) (C := RX0) (T := TX0) (N := 11) hx hb hts hinX0 hown hK hP 0 rfl rfl 4 (by decide) (hts (.fieldLink RX0 27 "Usewise$Lease" "term" "I") (by decide +kernel)) (fun _ h9 => h9) rfl dX0_scalePayments_7 ?_
      refine z_icmp_ge (tgt := 41) hx hb dX0_scalePayments_10 (by decide) (by omega) (by omega) (fun hc => ?_) (fun hc => ?_)
      · exact z_vret hx hb hr hP hK hD hS dX0_scalePayments_41 hlocks (⟨u2, rfl, fun j h1 h2 => hv1 j h1 (by omega)⟩)
      · have hpj := hp k (by omega) (by omega)
        refine lv_aload_n hx hb dX0_scalePayments_13 rfl (lv_at hl 1 rfl) ?_
        refine va_get (D := g.1) (ci := 0) (v := .ref pa) (C := RX0) (T := TX0) (N := 11) hx hb hts hinX0 hown hK hP 0 rfl rfl 2 (by decide) (hts (.fieldLink RX0 30 "Usewise$Lease" "payments" "[I") (by decide +kernel)) (fun _ h9 => h9) rfl dX0_scalePayments_14 ?_
        refine lv_iload_n hx hb dX0_scalePayments_17 rfl (lv_at hl 0 rfl) ?_
        refine lv_aload_n hx hb dX0_scalePayments_18 rfl (lv_at hl 1 rfl) ?_
        refine va_get (D := g.1) (ci := 0) (v := .ref pa) (C := RX0) (T := TX0) (N := 11) hx hb hts hinX0 hown hK hP 0 rfl rfl 2 (by decide) (hts (.fieldLink RX0 30 "Usewise$Lease" "payments" "[I") (by decide +kernel)) (fun _ h9 => h9) rfl dX0_scalePayments_19 ?_
        refine lv_iload_n hx hb dX0_scalePayments_22 rfl (lv_at hl 0 rfl) ?_
        refine z_ai (wa := [(h, .inr (0, [.int (nI rt), .int (nI lf), .ref pa, .ref da, .int (nI T), .int (nI P), .long R, .long xI, .long xP, .long xW, .long xG]))]) (wc := [(pa, .inl (g.2.1, 120, .inl u2))]) (wb := [(da, .inl (g.2.1, 121, .inl v))]) (va_runS (As := [.ref pa, .int (nI k)]) (rest := [.int (nI k), .ref pa]) ⟨hx, hb, hml, hown, hts⟩ (c_at l g pa 120 k u2 (by omega) (by decide) H.size _ rfl) (va_cwS 2 hts gX0_scalePayments_X0_at rfl rfl rfl (by decide +kernel) ⟨Nat.le_of_ble_eq_true rfl, Nat.le_of_ble_eq_true rfl⟩) (zpreS (wa := [(h, .inr (0, [.int (nI rt), .int (nI lf), .ref pa, .ref da, .int (nI T), .int (nI P), .long R, .long xI, .long xP, .long xW, .long xG]))]) (wc := [(pa, .inl (g.2.1, 120, .inl u2))]) (wb := [(da, .inl (g.2.1, 121, .inl v))]) hK hP hD) rfl rfl hl.1 rfl (lv_room (Nat.le_of_ble_eq_true rfl)) dX0_scalePayments_23 ⟨Nat.le_of_ble_eq_true rfl, Nat.le_of_ble_eq_true rfl⟩) hP hD hS hA (fun r_1 w1 H locs hq hP hD hS => ?_)
        obtain ⟨rfl, rfl⟩ := hq
        have hP : va_P g.1 vwCl [(h, .inr (0, [.int (nI rt), .int (nI lf), .ref pa, .ref da, .int (nI T), .int (nI P), .long R, .long xI, .long xP, .long xW, .long xG])), (pa, .inl (g.2.1, 120, .inl u2)), (da, .inl (g.2.1, 121, .inl v))] H := hP
        have hD : va_D A [(h, .inr (0, [.int (nI rt), .int (nI lf), .ref pa, .ref da, .int (nI T), .int (nI P), .long R, .long xI, .long xP, .long xW, .long xG])), (pa, .inl (g.2.1, 120, .inl u2)), (da, .inl (g.2.1, 121, .inl v))] := hD
        refine zi (y := nI (py k)) (hv2 k (by omega) (by omega)) ?_
        refine z_i2l hx hb dX0_scalePayments_26 (by omega) ?_
        refine lv_iload_n hx hb dX0_scalePayments_27 rfl (lv_at hl 2 rfl) ?_
        refine z_al (wa := [(h, .inr (0, [.int (nI rt), .int (nI lf), .ref pa, .ref da, .int (nI T), .int (nI P), .long R, .long xI, .long xP, .long xW, .long xG])), (pa, .inl (g.2.1, 120, .inl u2)), (da, .inl (g.2.1, 121, .inl v))]) (wc := []) (wb := []) (va_runS (As := [.long (lN (py k)), .int (nI a0)]) (rest := [.int (nI k), .ref pa]) ⟨hx, hb, hml, hown, hts⟩ (c_percentOf l g (py k) a0 ha0 (by omega) H.size _ rfl) (va_cwS 2 hts gX0_scalePayments_X0_percentOf rfl rfl rfl (by decide +kernel) ⟨Nat.le_of_ble_eq_true rfl, Nat.le_of_ble_eq_true rfl⟩) (zpreS (wa := [(h, .inr (0, [.int (nI rt), .int (nI lf), .ref pa, .ref da, .int (nI T), .int (nI P), .long R, .long xI, .long xP, .long xW, .long xG])), (pa, .inl (g.2.1, 120, .inl u2)), (da, .inl (g.2.1, 121, .inl v))]) (wc := []) (wb := []) hK hP hD) rfl rfl hl.1 rfl (lv_room (Nat.le_of_ble_eq_true rfl)) dX0_scalePayments_28 ⟨Nat.le_of_ble_eq_true rfl, Nat.le_of_ble_eq_true rfl⟩) hP hD hS hA (fun r_2 w1 H locs hq hP hD hS => ?_)
        obtain ⟨rfl, rfl⟩ := hq
        have hP : va_P g.1 vwCl [(h, .inr (0, [.int (nI rt), .int (nI lf), .ref pa, .ref da, .int (nI T), .int (nI P), .long R, .long xI, .long xP, .long xW, .long xG])), (pa, .inl (g.2.1, 120, .inl u2)), (da, .inl (g.2.1, 121, .inl v))] H := hP
        have hD : va_D A [(h, .inr (0, [.int (nI rt), .int (nI lf), .ref pa, .ref da, .int (nI T), .int (nI P), .long R, .long xI, .long xP, .long xW, .long xG])), (pa, .inl (g.2.1, 120, .inl u2)), (da, .inl (g.2.1, 121, .inl v))] := hD
        refine z_l2i hx hb dX0_scalePayments_31 ?_
        refine z_av (wa := [(h, .inr (0, [.int (nI rt), .int (nI lf), .ref pa, .ref da, .int (nI T), .int (nI P), .long R, .long xI, .long xP, .long xW, .long xG]))]) (wc := [(pa, .inl (g.2.1, 120, .inl u2))]) (wb := [(da, .inl (g.2.1, 121, .inl v))]) (va_runS (As := [.ref pa, .int (nI k), .int (nI (py k * a0 / 100))]) (rest := []) ⟨hx, hb, hml, hown, hts⟩ (c_put l g pa 120 k (nI (py k * a0 / 100)) u2 (by omega) (by decide) H.size _ rfl) (va_cwS 3 hts gX0_scalePayments_X0_put rfl rfl rfl (by decide +kernel) ⟨Nat.le_of_ble_eq_true rfl, Nat.le_of_ble_eq_true rfl⟩) (zpreS (wa := [(h, .inr (0, [.int (nI rt), .int (nI lf), .ref pa, .ref da, .int (nI T), .int (nI P), .long R, .long xI, .long xP, .long xW, .long xG]))]) (wc := [(pa, .inl (g.2.1, 120, .inl u2))]) (wb := [(da, .inl (g.2.1, 121, .inl v))]) hK hP hD) rfl rfl hl.1 rfl (lv_room (Nat.le_of_ble_eq_true rfl)) dX0_scalePayments_32 ⟨Nat.le_of_ble_eq_true rfl, Nat.le_of_ble_eq_true rfl⟩) hP hD hS hA (fun w1 H locs hq hP hD hS => ?_)
        obtain rfl := hq
        have hP : va_P g.1 vwCl [(h, .inr (0, [.int (nI rt), .int (nI lf), .ref pa, .ref da, .int (nI T), .int (nI P), .long R, .long xI, .long xP, .long xW, .long xG])), (pa, .inl (g.2.1, 120, .inl (upd u2 k (nI (py k * a0 / 100))))), (da, .inl (g.2.1, 121, .inl v))] H := hP
        have hD : va_D A [(h, .inr (0, [.int (nI rt), .int (nI lf), .ref pa, .ref da, .int (nI T), .int (nI P), .long R, .long xI, .long xP, .long xW, .long xG])), (pa, .inl (g.2.1, 120, .inl (upd u2 k (nI (py k * a0 / 100))))), (da, .inl (g.2.1, 121, .inl v))] := hD
        refine z_iinc (lv' := [(2, .int (nI (k + 1))), (0, .ref h), (1, .int (nI a0))]) hx hb dX0_scalePayments_35 hl (k := 0) rfl (by decide) rfl (fun ls hl => ?_)
        refine lv_goto (tgt := 5) hx hb dX0_scalePayments_38 (by decide) ?_
        exact ih (k + 1) (upd u2 k (nI (py k * a0 / 100))) H _ _ (by omega) (by omega) (by omega) (fun i h1 h2 => if hi : i = k then (by rw [hi, z_upd_s]; rfl) else (by rw [z_upd_n _ _ hi]; exact hv1 i h1 (by omega))) (fun i h1 h2 => by rw [z_upd_n _ _ (by omega)]; exact hv2 i (by omega) h2) hP hD hS (lv_sub hl [0, 1, 2] rfl)
  exact loop (T + 1) P _ _ _ _ (by omega) (by omega) (by omega) (fun j h1 h2 => absurd h2 (by omega)) hu hP hD hS (lv_sub hl [0, 1, 2] rfl)

set_option maxHeartbeats 4000000 in
set_option maxRecDepth 100000 in
theorem c_wouldPassTheMost (l : Launch) (g : zG) (h pa da rt lf T P : Nat) (R xI xP xW xG : Int64) (u v : Nat → Int32) (py : Nat → Nat) (a0 : Nat) (hT : T ≤ 120) (hPT : P ≤ T) (hp : ∀ j, P ≤ j → j < T → py j ≤ 1000000) (hu : ∀ j, P ≤ j → j < T → u j = nI (py j)) (ha0 : a0 ≤ 200) : zMi l yX0_wouldPassTheMost wsX0_wouldPassTheMost ({ frames := 1, cells := 0, slots := 0, locals := 22 } : Room) [.ref h, .int (nI a0)] g [(h, .inr (0, [.int (nI rt), .int (nI lf), .ref pa, .ref da, .int (nI T), .int (nI P), .long R, .long xI, .long xP, .long xW, .long xG])), (pa, .inl (g.2.1, 120, .inl u)), (da, .inl (g.2.1, 121, .inl v))] (fun q w => (((∃ j, P ≤ j ∧ j < T ∧ 1000000 < zSc a0 py j) ∧ q = nI 1) ∨ ((∀ j, P ≤ j → j < T → zSc a0 py j ≤ 1000000) ∧ q = nI 0)) ∧ w = [(h, .inr (0, [.int (nI rt), .int (nI lf), .ref pa, .ref da, .int (nI T), .int (nI P), .long R, .long xI, .long xP, .long xW, .long xG])), (pa, .inl (g.2.1, 120, .inl u)), (da, .inl (g.2.1, 121, .inl v))]) 0 0 := by
  intro sz A hAe
  refine Met.ofW (cc := cX0_wouldPassTheMost) (maxL := 3) (ret := some .boolean) (by decide) rfl ?_
  intro p e s m args below meth c s₁ B hml hv
  obtain ⟨rfl, hsz, hP, hK, hD0⟩ := hv
  have hx := B.exec
  have hb := B.bytes
  have hr := B.returns
  have hts := atoms_spec (ws := wsX0_wouldPassTheMost) B.pre
  have hown : s.vm.findClass RX0 = some m.cls := findClass_of_methodNamed B.named
  have hlocks := B.notSynchronized
  obtain ⟨hD, hA, hS⟩ := z_in hsz hAe hD0
  have hl := lv_entry ([.ref h, .int (nI a0)]) (n := 3) (Nat.le_of_ble_eq_true rfl)
  rw [lg_entry_eq]
  generalize (lg_sl ([.ref h, .int (nI a0)]) ++ List.replicate (3 - (lg_sl ([.ref h, .int (nI a0)])).length) Slot.unset).toArray = ls at hl ⊢
  have hl : lv_has ls 3 [(0, .ref h), (1, .int (nI a0))] := hl
  have hinX0 : ∀ w ∈ wsX00, w ∈ wsX0_wouldPassTheMost := by decide +kernel
  refine lv_aload_n hx hb dX0_wouldPassTheMost_0 rfl (lv_at hl 0 rfl) ?_
  refine va_get (D := g.1) (ci := 0) (v := .int (nI P)) (C := RX0) (T := TX0) (N := 11) hx hb hts hinX0 hown hK hP 0 rfl rfl 5 (by decide) (hts (.fieldLink RX0 52 "Usewise$Lease" "past" "I") (by decide +kernel)) (fun _ h9 => h9) rfl dX0_wouldPassTheMost_1 ?_
  refine lv_istore_n (lv' := [(2, .int (nI P)), (0, .ref h), (1, .int (nI a0))]) hx hb dX0_wouldPassTheMost_4 rfl hl (by decide) rfl (fun ls hl => ?_)
  have loop : ∀ (n : Nat) (k : Nat) (H : Heap) (locs : List Loc) (ls : Array Slot), T < k + n → P ≤ k → k ≤ T → (∀ j, P ≤ j → j < k → zSc a0 py j ≤ 1000000) → va_P g.1 vwCl [(h, .inr (0, [.int (nI rt), .int (nI lf), .ref pa, .ref da, .int (nI T), .int (nI P), .long R, .long xI, .long xP, .long xW, .long xG])), (pa, .inl (g.2.1, 120, .inl u)), (da, .inl (g.2.1, 121, .inl v))] H → va_D A [(h, .inr (0, [.int (nI rt), .int (nI lf), .ref pa, .ref da, .int (nI T), .int (nI P), .long R, .long xI, .long xP, .long xW, .long xG])), (pa, .inl (g.2.1, 120, .inl u)), (da, .inl (g.2.1, 121, .inl v))] → va_S A s.heap H locs → lv_has ls 3 [(2, .int (nI k)), (0, .ref h), (1, .int (nI a0))] → W p l e (headSpec wsX0_wouldPassTheMost ({ frames := 1, cells := 0, slots := 0, locals := 22 } : Room)).room s m ([.ref h, .int (nI a0)] : List Value).toArray below meth c H locs 0 0 (MQ below (va_Qi (fun q w => (((∃ j, P ≤ j ∧ j < T ∧ 1000000 < zSc a0 py j) ∧ q = nI 1) ∨ ((∀ j, P ≤ j → j < T → zSc a0 py j ≤ 1000000) ∧ q = nI 0)) ∧ w = [(h, .inr (0, [.int (nI rt), .int (nI lf), .ref pa, .ref da, .int (nI T), .int (nI P), .long R, .long xI, .long xP, .long xW, .long xG])), (pa, .inl (g.2.1, 120, .inl u)), (da, .inl (g.2.1, 121, .inl v))]) (zOut g A) A) ([.ref h, .int (nI a0)] : List Value).toArray s 0 0 A) (F0 m 5 ls []) := by
    intro n
    induction n with
    | zero =>
      intro k H locs ls hn hk1 hk2 hv1 hP hD hS hl
      omega
    | succ n ih =>
      intro k H locs ls hn hk1 hk2 hv1 hP hD hS hl
      refine lv_iload_n hx hb dX0_wouldPassTheMost_5 rfl (lv_at hl 0 rfl) ?_
      refine lv_aload_n hx hb dX0_wouldPassTheMost_6 rfl (lv_at hl 1 rfl) ?_
      refine va_get (D := g.1) (ci := 0) (v := .int (nI T)) (C := RX0) (T := TX0) (N := 11) hx hb hts hinX0 hown hK hP 0 rfl rfl 4 (by decide) (hts (.fieldLink RX0 27 "Usewise$Lease" "term" "I") (by decide +kernel)) (fun _ h9 => h9) rfl dX0_wouldPassTheMost_7 ?_
      refine z_icmp_ge (tgt := 41) hx hb dX0_wouldPassTheMost_10 (by decide) (by omega) (by omega) (fun hc => ?_) (fun hc => ?_)
      · refine lv_iconst (v := nI 0) hx hb dX0_wouldPassTheMost_41 (by decide) ?_
        exact z_zret hx hb hr (by decide) hP hK hD hS dX0_wouldPassTheMost_42 hlocks (⟨Or.inr ⟨fun j h1 h2 => hv1 j h1 (by omega), rfl⟩, rfl⟩)
      · have hpj := hp k (by omega) (by omega)
        refine lv_aload_n hx hb dX0_wouldPassTheMost_13 rfl (lv_at hl 1 rfl) ?_
        refine va_get (D := g.1) (ci := 0) (v := .ref pa) (C := RX0) (T := TX0) (N := 11) hx hb hts hinX0 hown hK hP 0 rfl rfl 2 (by decide) (hts (.fieldLink RX0 30 "Usewise$Lease" "payments" "[I") (by decide +kernel)) (fun _ h9 => h9) rfl dX0_wouldPassTheMost_14 ?_
        refine lv_iload_n hx hb dX0_wouldPassTheMost_17 rfl (lv_at hl 0 rfl) ?_
        refine z_ai (wa := [(h, .inr (0, [.int (nI rt), .int (nI lf), .ref pa, .ref da, .int (nI T), .int (nI P), .long R, .long xI, .long xP, .long xW, .long xG]))]) (wc := [(pa, .inl (g.2.1, 120, .inl u))]) (wb := [(da, .inl (g.2.1, 121, .inl v))]) (va_runS (As := [.ref pa, .int (nI k)]) (rest := []) ⟨hx, hb, hml, hown, hts⟩ (c_at l g pa 120 k u (by omega) (by decide) H.size _ rfl) (va_cwS 2 hts gX0_wouldPassTheMost_X0_at rfl rfl rfl (by decide +kernel) ⟨Nat.le_of_ble_eq_true rfl, Nat.le_of_ble_eq_true rfl⟩) (zpreS (wa := [(h, .inr (0, [.int (nI rt), .int (nI lf), .ref pa, .ref da, .int (nI T), .int (nI P), .long R, .long xI, .long xP, .long xW, .long xG]))]) (wc := [(pa, .inl (g.2.1, 120, .inl u))]) (wb := [(da, .inl (g.2.1, 121, .inl v))]) hK hP hD) rfl rfl hl.1 rfl (lv_room (Nat.le_of_ble_eq_true rfl)) dX0_wouldPassTheMost_18 ⟨Nat.le_of_ble_eq_true rfl, Nat.le_of_ble_eq_true rfl⟩) hP hD hS hA (fun r_1 w1 H locs hq hP hD hS => ?_)
        obtain ⟨rfl, rfl⟩ := hq
        have hP : va_P g.1 vwCl [(h, .inr (0, [.int (nI rt), .int (nI lf), .ref pa, .ref da, .int (nI T), .int (nI P), .long R, .long xI, .long xP, .long xW, .long xG])), (pa, .inl (g.2.1, 120, .inl u)), (da, .inl (g.2.1, 121, .inl v))] H := hP
        have hD : va_D A [(h, .inr (0, [.int (nI rt), .int (nI lf), .ref pa, .ref da, .int (nI T), .int (nI P), .long R, .long xI, .long xP, .long xW, .long xG])), (pa, .inl (g.2.1, 120, .inl u)), (da, .inl (g.2.1, 121, .inl v))] := hD
        refine zi (y := nI (py k)) (hu k (by omega) (by omega)) ?_
        refine z_i2l hx hb dX0_wouldPassTheMost_21 (by omega) ?_
        refine lv_iload_n hx hb dX0_wouldPassTheMost_22 rfl (lv_at hl 2 rfl) ?_
        refine z_al (wa := [(h, .inr (0, [.int (nI rt), .int (nI lf), .ref pa, .ref da, .int (nI T), .int (nI P), .long R, .long xI, .long xP, .long xW, .long xG])), (pa, .inl (g.2.1, 120, .inl u)), (da, .inl (g.2.1, 121, .inl v))]) (wc := []) (wb := []) (va_runS (As := [.long (lN (py k)), .int (nI a0)]) (rest := []) ⟨hx, hb, hml, hown, hts⟩ (c_percentOf l g (py k) a0 ha0 (by omega) H.size _ rfl) (va_cwS 2 hts gX0_wouldPassTheMost_X0_percentOf rfl rfl rfl (by decide +kernel) ⟨Nat.le_of_ble_eq_true rfl, Nat.le_of_ble_eq_true rfl⟩) (zpreS (wa := [(h, .inr (0, [.int (nI rt), .int (nI lf), .ref pa, .ref da, .int (nI T), .int (nI P), .long R, .long xI, .long xP, .long xW, .long xG])), (pa, .inl (g.2.1, 120, .inl u)), (da, .inl (g.2.1, 121, .inl v))]) (wc := []) (wb := []) hK hP hD) rfl rfl hl.1 rfl (lv_room (Nat.le_of_ble_eq_true rfl)) dX0_wouldPassTheMost_23 ⟨Nat.le_of_ble_eq_true rfl, Nat.le_of_ble_eq_true rfl⟩) hP hD hS hA (fun r_2 w1 H locs hq hP hD hS => ?_)
        obtain ⟨rfl, rfl⟩ := hq
        have hP : va_P g.1 vwCl [(h, .inr (0, [.int (nI rt), .int (nI lf), .ref pa, .ref da, .int (nI T), .int (nI P), .long R, .long xI, .long xP, .long xW, .long xG])), (pa, .inl (g.2.1, 120, .inl u)), (da, .inl (g.2.1, 121, .inl v))] H := hP
        have hD : va_D A [(h, .inr (0, [.int (nI rt), .int (nI lf), .ref pa, .ref da, .int (nI T), .int (nI P), .long R, .long xI, .long xP, .long xW, .long xG])), (pa, .inl (g.2.1, 120, .inl u)), (da, .inl (g.2.1, 121, .inl v))] := hD
        have hq0 : py k * a0 ≤ 1000000 * 200 := Nat.mul_le_mul hpj ha0
        refine lv_ldc2 (v := lN 1000000) hx hb hown (hts (.constantLong RX0 63 (1000000)) (by decide +kernel)) dX0_wouldPassTheMost_26 ?_
        refine z_lif_le (tgt := 35) (pc2 := 30) hx hb dX0_wouldPassTheMost_29 rfl dX0_wouldPassTheMost_30 (by decide) (fun hd => ?_) (fun hd => ?_)
        · rw [pk_lLE (by omega) (by decide)] at hd
          refine z_iinc (lv' := [(2, .int (nI (k + 1))), (0, .ref h), (1, .int (nI a0))]) hx hb dX0_wouldPassTheMost_35 hl (k := 0) rfl (by decide) rfl (fun ls hl => ?_)
          refine lv_goto (tgt := 5) hx hb dX0_wouldPassTheMost_38 (by decide) ?_
          exact ih (k + 1) H _ _ (by omega) (by omega) (by omega) (fun i h1 h2 => if hi : i = k then (by rw [hi]; exact hd) else hv1 i h1 (by omega)) hP hD hS (lv_sub hl [0, 1, 2] rfl)
        · rw [pk_lLT (by decide) (by omega)] at hd
          refine lv_iconst (v := nI 1) hx hb dX0_wouldPassTheMost_33 (by decide) ?_
          exact z_zret hx hb hr (by decide) hP hK hD hS dX0_wouldPassTheMost_34 hlocks (⟨Or.inl ⟨⟨k, by omega, by omega, hd⟩, rfl⟩, rfl⟩)
  exact loop (T + 1) P _ _ _ (by omega) (by omega) (by omega) (fun j h1 h2 => absurd h2 (by omega)) hP hD hS (lv_sub hl [0, 1, 2] rfl)

set_option maxHeartbeats 4000000 in
set_option maxRecDepth 100000 in
theorem c_followDebt (l : Launch) (g : zG) (h pa da rt lf T P R0 : Nat) (xI xP xW xG : Int64) (u v : Nat → Int32) (py : Nat → Nat) (D0 : Nat) (hT : T ≤ 120) (hPT : P ≤ T) (hp : ∀ j, P ≤ j → j < T → py j ≤ 1000000) (hu : ∀ j, P ≤ j → j < T → u j = nI (py j)) (hrt : rt ≤ 20000) (hv0 : v P = nI D0) (hD0 : D0 ≤ 120000000) (hR0 : R0 ≤ 240000000) : zMv l yX0_followDebt wsX0_followDebt ({ frames := 2, cells := 0, slots := 0, locals := 48 } : Room) [.ref h] g [(h, .inr (0, [.int (nI rt), .int (nI lf), .ref pa, .ref da, .int (nI T), .int (nI P), .long (lN R0), .long xI, .long xP, .long xW, .long xG])), (pa, .inl (g.2.1, 120, .inl u)), (da, .inl (g.2.1, 121, .inl v))] (fun w => ∃ (v' : Nat → Int32) (R1 : Nat) (yG : Int64), w = [(h, .inr (0, [.int (nI rt), .int (nI lf), .ref pa, .ref da, .int (nI T), .int (nI P), .long (lN R1), .long xI, .long xP, .long xW, .long yG])), (pa, .inl (g.2.1, 120, .inl u)), (da, .inl (g.2.1, 121, .inl v'))] ∧ (∀ j, P ≤ j → j ≤ T → v' j = nI (zWr rt py T (T - j))) ∧ ((R0 + zWr rt py T (T - P) < D0 ∧ R1 = 0 ∧ yG.toInt32 = xG.toInt32 - (nI R0 + (nI (zWr rt py T (T - P)) - nI D0))) ∨ (D0 ≤ R0 + zWr rt py T (T - P) ∧ R1 = R0 + zWr rt py T (T - P) - D0 ∧ yG = xG))) 0 0 := by
  intro sz A hAe
  refine Met.ofW (cc := cX0_followDebt) (maxL := 3) (ret := none) (by decide) rfl ?_
  intro p e s m args below meth c s₁ B hml hv
  obtain ⟨rfl, hsz, hP, hK, hD0⟩ := hv
  have hx := B.exec
  have hb := B.bytes
  have hr := B.returns
  have hts := atoms_spec (ws := wsX0_followDebt) B.pre
  have hown : s.vm.findClass RX0 = some m.cls := findClass_of_methodNamed B.named
  have hlocks := B.notSynchronized
  obtain ⟨hD, hA, hS⟩ := z_in hsz hAe hD0
  have hl := lv_entry ([.ref h]) (n := 3) (Nat.le_of_ble_eq_true rfl)
  rw [lg_entry_eq]
  generalize (lg_sl ([.ref h]) ++ List.replicate (3 - (lg_sl ([.ref h])).length) Slot.unset).toArray = ls at hl ⊢
  have hl : lv_has ls 3 [(0, .ref h)] := hl
  have hinX0 : ∀ w ∈ wsX00, w ∈ wsX0_followDebt := by decide +kernel
  have hD1 := z_wb (r := rt) (j := P) hT hp (Nat.le_refl P)
  refine lv_aload_n hx hb dX0_followDebt_0 rfl (lv_at hl 0 rfl) ?_
  refine z_ai (wa := []) (wc := [(h, .inr (0, [.int (nI rt), .int (nI lf), .ref pa, .ref da, .int (nI T), .int (nI P), .long (lN R0), .long xI, .long xP, .long xW, .long xG])), (pa, .inl (g.2.1, 120, .inl u)), (da, .inl (g.2.1, 121, .inl v))]) (wb := []) (va_runV (As := []) (rest := []) ⟨hx, hb, hml, hown, hts⟩ (c_debtNow l g h pa da rt lf T P (lN R0) xI xP xW xG u v (by omega) s.heap.size _ rfl) (cwV 0 hts gX0_followDebt_X0_debtNow rfl rfl rfl (by decide +kernel) ⟨Nat.le_of_ble_eq_true rfl, Nat.le_of_ble_eq_true rfl⟩) (zpreV (wa := []) (wc := [(h, .inr (0, [.int (nI rt), .int (nI lf), .ref pa, .ref da, .int (nI T), .int (nI P), .long (lN R0), .long xI, .long xP, .long xW, .long xG])), (pa, .inl (g.2.1, 120, .inl u)), (da, .inl (g.2.1, 121, .inl v))]) (wb := []) (q0 := 0) (ci := 0) (T := TX0) (N := 11) hK hP hD rfl rfl) rfl rfl hl.1 rfl (lv_room (Nat.le_of_ble_eq_true rfl)) dX0_followDebt_1 ⟨Nat.le_of_ble_eq_true rfl, Nat.le_of_ble_eq_true rfl⟩) hP hD hS hA (fun r_1 w1 H locs hq hP hD hS => ?_)
  obtain ⟨rfl, rfl⟩ := hq
  have hP : va_P g.1 vwCl [(h, .inr (0, [.int (nI rt), .int (nI lf), .ref pa, .ref da, .int (nI T), .int (nI P), .long (lN R0), .long xI, .long xP, .long xW, .long xG])), (pa, .inl (g.2.1, 120, .inl u)), (da, .inl (g.2.1, 121, .inl v))] H := hP
  have hD : va_D A [(h, .inr (0, [.int (nI rt), .int (nI lf), .ref pa, .ref da, .int (nI T), .int (nI P), .long (lN R0), .long xI, .long xP, .long xW, .long xG])), (pa, .inl (g.2.1, 120, .inl u)), (da, .inl (g.2.1, 121, .inl v))] := hD
  refine zi (y := nI D0) (hv0) ?_
  refine z_i2l hx hb dX0_followDebt_4 (by omega) ?_
  refine lv_lstore_n (lv' := [(1, .long (lN D0)), (0, .ref h)]) hx hb dX0_followDebt_5 rfl hl (by decide) rfl (fun ls hl => ?_)
  refine lv_aload_n hx hb dX0_followDebt_6 rfl (lv_at hl 1 rfl) ?_
  refine z_av (wa := []) (wc := [(h, .inr (0, [.int (nI rt), .int (nI lf), .ref pa, .ref da, .int (nI T), .int (nI P), .long (lN R0), .long xI, .long xP, .long xW, .long xG])), (pa, .inl (g.2.1, 120, .inl u)), (da, .inl (g.2.1, 121, .inl v))]) (wb := []) (va_runV (As := []) (rest := []) ⟨hx, hb, hml, hown, hts⟩ (c_layDebts l g h pa da rt lf T P (lN R0) xI xP xW xG u v py hT hPT hp hu hrt H.size _ rfl) (cwV 0 hts gX0_followDebt_X0_layDebts rfl rfl rfl (by decide +kernel) ⟨Nat.le_of_ble_eq_true rfl, Nat.le_of_ble_eq_true rfl⟩) (zpreV (wa := []) (wc := [(h, .inr (0, [.int (nI rt), .int (nI lf), .ref pa, .ref da, .int (nI T), .int (nI P), .long (lN R0), .long xI, .long xP, .long xW, .long xG])), (pa, .inl (g.2.1, 120, .inl u)), (da, .inl (g.2.1, 121, .inl v))]) (wb := []) (q0 := 0) (ci := 0) (T := TX0) (N := 11) hK hP hD rfl rfl) rfl rfl hl.1 rfl (lv_room (Nat.le_of_ble_eq_true rfl)) dX0_followDebt_7 ⟨Nat.le_of_ble_eq_true rfl, Nat.le_of_ble_eq_true rfl⟩) hP hD hS hA (fun w1 H locs hq hP hD hS => ?_)
  obtain ⟨v2, rfl, hv2⟩ := hq
  have hP : va_P g.1 vwCl [(h, .inr (0, [.int (nI rt), .int (nI lf), .ref pa, .ref da, .int (nI T), .int (nI P), .long (lN R0), .long xI, .long xP, .long xW, .long xG])), (pa, .inl (g.2.1, 120, .inl u)), (da, .inl (g.2.1, 121, .inl v2))] H := hP
  have hD : va_D A [(h, .inr (0, [.int (nI rt), .int (nI lf), .ref pa, .ref da, .int (nI T), .int (nI P), .long (lN R0), .long xI, .long xP, .long xW, .long xG])), (pa, .inl (g.2.1, 120, .inl u)), (da, .inl (g.2.1, 121, .inl v2))] := hD
  refine lv_aload_n hx hb dX0_followDebt_10 rfl (lv_at hl 1 rfl) ?_
  refine lv_dup hx hb dX0_followDebt_11 rfl ?_
  refine va_get (D := g.1) (ci := 0) (v := .long (lN R0)) (C := RX0) (T := TX0) (N := 11) hx hb hts hinX0 hown hK hP 0 rfl rfl 6 (by decide) (hts (.fieldLink RX0 48 "Usewise$Lease" "right" "J") (by decide +kernel)) (fun _ h9 => h9) rfl dX0_followDebt_12 ?_
  refine lv_aload_n hx hb dX0_followDebt_15 rfl (lv_at hl 1 rfl) ?_
  refine z_ai (wa := []) (wc := [(h, .inr (0, [.int (nI rt), .int (nI lf), .ref pa, .ref da, .int (nI T), .int (nI P), .long (lN R0), .long xI, .long xP, .long xW, .long xG])), (pa, .inl (g.2.1, 120, .inl u)), (da, .inl (g.2.1, 121, .inl v2))]) (wb := []) (va_runV (As := []) (rest := [.long (lN R0), .ref h]) ⟨hx, hb, hml, hown, hts⟩ (c_debtNow l g h pa da rt lf T P (lN R0) xI xP xW xG u v2 (by omega) H.size _ rfl) (cwV 0 hts gX0_followDebt_X0_debtNow rfl rfl rfl (by decide +kernel) ⟨Nat.le_of_ble_eq_true rfl, Nat.le_of_ble_eq_true rfl⟩) (zpreV (wa := []) (wc := [(h, .inr (0, [.int (nI rt), .int (nI lf), .ref pa, .ref da, .int (nI T), .int (nI P), .long (lN R0), .long xI, .long xP, .long xW, .long xG])), (pa, .inl (g.2.1, 120, .inl u)), (da, .inl (g.2.1, 121, .inl v2))]) (wb := []) (q0 := 0) (ci := 0) (T := TX0) (N := 11) hK hP hD rfl rfl) rfl rfl hl.1 rfl (lv_room (Nat.le_of_ble_eq_true rfl)) dX0_followDebt_16 ⟨Nat.le_of_ble_eq_true rfl, Nat.le_of_ble_eq_true rfl⟩) hP hD hS hA (fun r_3 w1 H locs hq hP hD hS => ?_)
  obtain ⟨rfl, rfl⟩ := hq
  have hP : va_P g.1 vwCl [(h, .inr (0, [.int (nI rt), .int (nI lf), .ref pa, .ref da, .int (nI T), .int (nI P), .long (lN R0), .long xI, .long xP, .long xW, .long xG])), (pa, .inl (g.2.1, 120, .inl u)), (da, .inl (g.2.1, 121, .inl v2))] H := hP
  have hD : va_D A [(h, .inr (0, [.int (nI rt), .int (nI lf), .ref pa, .ref da, .int (nI T), .int (nI P), .long (lN R0), .long xI, .long xP, .long xW, .long xG])), (pa, .inl (g.2.1, 120, .inl u)), (da, .inl (g.2.1, 121, .inl v2))] := hD
  refine zi (y := nI (zWr rt py T (T - P))) (hv2 P (by omega) (by omega)) ?_
  refine z_i2l hx hb dX0_followDebt_19 (by omega) ?_
  refine lv_lload_n hx hb dX0_followDebt_20 rfl (lv_at hl 0 rfl) ?_
  refine lv_lsub hx hb dX0_followDebt_21 ?_
  refine lv_ladd hx hb dX0_followDebt_22 ?_
  refine va_put (D := g.1) (ci := 0) (v := .long ((lN R0) + ((lN (zWr rt py T (T - P))) - (lN D0)))) (ty := .long) (C := RX0) (T := TX0) (N := 11) hx hb hts hinX0 tyX0 tyX0_ok nmX0 hown hK hP hD hS 0 rfl rfl 6 (by decide) (hts (.fieldLink RX0 48 "Usewise$Lease" "right" "J") (by decide +kernel)) (fun _ h9 => h9) rfl (by decide +kernel) rfl rfl (Nat.le_of_ble_eq_true rfl) dX0_followDebt_23 (fun H locs hP hD hS => ?_)
  have hP : va_P g.1 vwCl [(h, .inr (0, [.int (nI rt), .int (nI lf), .ref pa, .ref da, .int (nI T), .int (nI P), .long ((lN R0) + ((lN (zWr rt py T (T - P))) - (lN D0))), .long xI, .long xP, .long xW, .long xG])), (pa, .inl (g.2.1, 120, .inl u)), (da, .inl (g.2.1, 121, .inl v2))] H := hP
  have hD : va_D A [(h, .inr (0, [.int (nI rt), .int (nI lf), .ref pa, .ref da, .int (nI T), .int (nI P), .long ((lN R0) + ((lN (zWr rt py T (T - P))) - (lN D0))), .long xI, .long xP, .long xW, .long xG])), (pa, .inl (g.2.1, 120, .inl u)), (da, .inl (g.2.1, 121, .inl v2))] := hD
  refine lv_aload_n hx hb dX0_followDebt_26 rfl (lv_at hl 1 rfl) ?_
  refine va_get (D := g.1) (ci := 0) (v := .long ((lN R0) + ((lN (zWr rt py T (T - P))) - (lN D0)))) (C := RX0) (T := TX0) (N := 11) hx hb hts hinX0 hown hK hP 0 rfl rfl 6 (by decide) (hts (.fieldLink RX0 48 "Usewise$Lease" "right" "J") (by decide +kernel)) (fun _ h9 => h9) rfl dX0_followDebt_27 ?_
  refine lv_lconst (v := lN 0) hx hb dX0_followDebt_30 rfl ?_
  refine z_lif_ge (tgt := 53) (pc2 := 32) hx hb dX0_followDebt_31 rfl dX0_followDebt_32 (by decide) (fun hc => ?_) (fun hc => ?_)
  · have hc2 : D0 ≤ R0 + zWr rt py T (T - P) := by
      rcases Nat.lt_or_ge (R0 + zWr rt py T (T - P)) D0 with z | z
      · have := z_fol2 z (by omega); rw [Int64.lt_iff_toInt_lt] at this; rw [Int64.le_iff_toInt_le] at hc; omega
      · exact z
    rw [z_fol1 hc2] at hP hD
    exact z_vret hx hb hr hP hK hD hS dX0_followDebt_53 hlocks (⟨v2, _, xG, rfl, hv2, Or.inr ⟨hc2, rfl, rfl⟩⟩)
  · have hc2 : R0 + zWr rt py T (T - P) < D0 := by
      rcases Nat.lt_or_ge (R0 + zWr rt py T (T - P)) D0 with z | z
      · exact z
      · rw [z_fol1 z, pk_lLT (by omega) (by decide)] at hc; omega
    refine lv_aload_n hx hb dX0_followDebt_35 rfl (lv_at hl 1 rfl) ?_
    refine lv_dup hx hb dX0_followDebt_36 rfl ?_
    refine va_get (D := g.1) (ci := 0) (v := .long xG) (C := RX0) (T := TX0) (N := 11) hx hb hts hinX0 hown hK hP 0 rfl rfl 10 (by decide) (hts (.fieldLink RX0 96 "Usewise$Lease" "gains" "J") (by decide +kernel)) (fun _ h9 => h9) rfl dX0_followDebt_37 ?_
    refine lv_aload_n hx hb dX0_followDebt_40 rfl (lv_at hl 1 rfl) ?_
    refine va_get (D := g.1) (ci := 0) (v := .long ((lN R0) + ((lN (zWr rt py T (T - P))) - (lN D0)))) (C := RX0) (T := TX0) (N := 11) hx hb hts hinX0 hown hK hP 0 rfl rfl 6 (by decide) (hts (.fieldLink RX0 48 "Usewise$Lease" "right" "J") (by decide +kernel)) (fun _ h9 => h9) rfl dX0_followDebt_41 ?_
    refine lv_lsub hx hb dX0_followDebt_44 ?_
    refine va_put (D := g.1) (ci := 0) (v := .long (xG - ((lN R0) + ((lN (zWr rt py T (T - P))) - (lN D0))))) (ty := .long) (C := RX0) (T := TX0) (N := 11) hx hb hts hinX0 tyX0 tyX0_ok nmX0 hown hK hP hD hS 0 rfl rfl 10 (by decide) (hts (.fieldLink RX0 96 "Usewise$Lease" "gains" "J") (by decide +kernel)) (fun _ h9 => h9) rfl (by decide +kernel) rfl rfl (Nat.le_of_ble_eq_true rfl) dX0_followDebt_45 (fun H locs hP hD hS => ?_)
    have hP : va_P g.1 vwCl [(h, .inr (0, [.int (nI rt), .int (nI lf), .ref pa, .ref da, .int (nI T), .int (nI P), .long ((lN R0) + ((lN (zWr rt py T (T - P))) - (lN D0))), .long xI, .long xP, .long xW, .long (xG - ((lN R0) + ((lN (zWr rt py T (T - P))) - (lN D0))))])), (pa, .inl (g.2.1, 120, .inl u)), (da, .inl (g.2.1, 121, .inl v2))] H := hP
    have hD : va_D A [(h, .inr (0, [.int (nI rt), .int (nI lf), .ref pa, .ref da, .int (nI T), .int (nI P), .long ((lN R0) + ((lN (zWr rt py T (T - P))) - (lN D0))), .long xI, .long xP, .long xW, .long (xG - ((lN R0) + ((lN (zWr rt py T (T - P))) - (lN D0))))])), (pa, .inl (g.2.1, 120, .inl u)), (da, .inl (g.2.1, 121, .inl v2))] := hD
    refine lv_aload_n hx hb dX0_followDebt_48 rfl (lv_at hl 1 rfl) ?_
    refine lv_lconst (v := lN 0) hx hb dX0_followDebt_49 rfl ?_
    refine va_put (D := g.1) (ci := 0) (v := .long (lN 0)) (ty := .long) (C := RX0) (T := TX0) (N := 11) hx hb hts hinX0 tyX0 tyX0_ok nmX0 hown hK hP hD hS 0 rfl rfl 6 (by decide) (hts (.fieldLink RX0 48 "Usewise$Lease" "right" "J") (by decide +kernel)) (fun _ h9 => h9) rfl (by decide +kernel) rfl rfl (Nat.le_of_ble_eq_true rfl) dX0_followDebt_50 (fun H locs hP hD hS => ?_)
    have hP : va_P g.1 vwCl [(h, .inr (0, [.int (nI rt), .int (nI lf), .ref pa, .ref da, .int (nI T), .int (nI P), .long (lN 0), .long xI, .long xP, .long xW, .long (xG - ((lN R0) + ((lN (zWr rt py T (T - P))) - (lN D0))))])), (pa, .inl (g.2.1, 120, .inl u)), (da, .inl (g.2.1, 121, .inl v2))] H := hP
    have hD : va_D A [(h, .inr (0, [.int (nI rt), .int (nI lf), .ref pa, .ref da, .int (nI T), .int (nI P), .long (lN 0), .long xI, .long xP, .long xW, .long (xG - ((lN R0) + ((lN (zWr rt py T (T - P))) - (lN D0))))])), (pa, .inl (g.2.1, 120, .inl u)), (da, .inl (g.2.1, 121, .inl v2))] := hD
    exact z_vret hx hb hr hP hK hD hS dX0_followDebt_53 hlocks (⟨v2, 0, _, rfl, hv2, Or.inl ⟨hc2, rfl, by rw [z64_sub, z64_add, z64_sub, lN_i, lN_i, lN_i]⟩⟩)

set_option maxHeartbeats 4000000 in
set_option maxRecDepth 100000 in
theorem c_giveUp (l : Launch) (g : zG) (h pa da rt lf T P R0 : Nat) (xI xP xW xG : Int64) (u v : Nat → Int32) (py : Nat → Nat) (D0 R1 : Nat) (hT : T ≤ 120) (hPT : P ≤ T) (hp : ∀ j, P ≤ j → j < T → py j ≤ 1000000) (hu : ∀ j, P ≤ j → j < T → u j = nI (py j)) (hrt : rt ≤ 20000) (hv0 : v P = nI D0) (hD0 : D0 ≤ 120000000) : zMi l yX0_giveUp wsX0_giveUp ({ frames := 2, cells := 0, slots := 0, locals := 48 } : Room) [.ref h, .long (lN R1)] g [(h, .inr (0, [.int (nI rt), .int (nI lf), .ref pa, .ref da, .int (nI T), .int (nI P), .long (lN R0), .long xI, .long xP, .long xW, .long xG])), (pa, .inl (g.2.1, 120, .inl u)), (da, .inl (g.2.1, 121, .inl v))] (fun q w => ∃ (v' : Nat → Int32) (yG : Int64), w = [(h, .inr (0, [.int (nI rt), .int (nI lf), .ref pa, .ref da, .int (nI T), .int (nI P), .long (lN R1), .long xI, .long xP, .long xW, .long yG])), (pa, .inl (g.2.1, 120, .inl u)), (da, .inl (g.2.1, 121, .inl v'))] ∧ (∀ j, P ≤ j → j ≤ T → v' j = nI (zWr rt py T (T - j))) ∧ q = nI D0 - nI (zWr rt py T (T - P)) - (nI R0 - nI R1) ∧ yG.toInt32 = xG.toInt32 + q) 0 0 := by
  intro sz A hAe
  refine Met.ofW (cc := cX0_giveUp) (maxL := 7) (ret := some .int) (by decide) rfl ?_
  intro p e s m args below meth c s₁ B hml hv
  obtain ⟨rfl, hsz, hP, hK, hD0⟩ := hv
  have hx := B.exec
  have hb := B.bytes
  have hr := B.returns
  have hts := atoms_spec (ws := wsX0_giveUp) B.pre
  have hown : s.vm.findClass RX0 = some m.cls := findClass_of_methodNamed B.named
  have hlocks := B.notSynchronized
  obtain ⟨hD, hA, hS⟩ := z_in hsz hAe hD0
  have hl := lv_entry ([.ref h, .long (lN R1)]) (n := 7) (Nat.le_of_ble_eq_true rfl)
  rw [lg_entry_eq]
  generalize (lg_sl ([.ref h, .long (lN R1)]) ++ List.replicate (7 - (lg_sl ([.ref h, .long (lN R1)])).length) Slot.unset).toArray = ls at hl ⊢
  have hl : lv_has ls 7 [(0, .ref h), (1, .long (lN R1))] := hl
  have hinX0 : ∀ w ∈ wsX00, w ∈ wsX0_giveUp := by decide +kernel
  have hD1 := z_wb (r := rt) (j := P) hT hp (Nat.le_refl P)
  refine lv_aload_n hx hb dX0_giveUp_0 rfl (lv_at hl 0 rfl) ?_
  refine z_ai (wa := []) (wc := [(h, .inr (0, [.int (nI rt), .int (nI lf), .ref pa, .ref da, .int (nI T), .int (nI P), .long (lN R0), .long xI, .long xP, .long xW, .long xG])), (pa, .inl (g.2.1, 120, .inl u)), (da, .inl (g.2.1, 121, .inl v))]) (wb := []) (va_runV (As := []) (rest := []) ⟨hx, hb, hml, hown, hts⟩ (c_debtNow l g h pa da rt lf T P (lN R0) xI xP xW xG u v (by omega) s.heap.size _ rfl) (cwV 0 hts gX0_giveUp_X0_debtNow rfl rfl rfl (by decide +kernel) ⟨Nat.le_of_ble_eq_true rfl, Nat.le_of_ble_eq_true rfl⟩) (zpreV (wa := []) (wc := [(h, .inr (0, [.int (nI rt), .int (nI lf), .ref pa, .ref da, .int (nI T), .int (nI P), .long (lN R0), .long xI, .long xP, .long xW, .long xG])), (pa, .inl (g.2.1, 120, .inl u)), (da, .inl (g.2.1, 121, .inl v))]) (wb := []) (q0 := 0) (ci := 0) (T := TX0) (N := 11) hK hP hD rfl rfl) rfl rfl hl.1 rfl (lv_room (Nat.le_of_ble_eq_true rfl)) dX0_giveUp_1 ⟨Nat.le_of_ble_eq_true rfl, Nat.le_of_ble_eq_true rfl⟩) hP hD hS hA (fun r_1 w1 H locs hq hP hD hS => ?_)
  obtain ⟨rfl, rfl⟩ := hq
  have hP : va_P g.1 vwCl [(h, .inr (0, [.int (nI rt), .int (nI lf), .ref pa, .ref da, .int (nI T), .int (nI P), .long (lN R0), .long xI, .long xP, .long xW, .long xG])), (pa, .inl (g.2.1, 120, .inl u)), (da, .inl (g.2.1, 121, .inl v))] H := hP
  have hD : va_D A [(h, .inr (0, [.int (nI rt), .int (nI lf), .ref pa, .ref da, .int (nI T), .int (nI P), .long (lN R0), .long xI, .long xP, .long xW, .long xG])), (pa, .inl (g.2.1, 120, .inl u)), (da, .inl (g.2.1, 121, .inl v))] := hD
  refine zi (y := nI D0) (hv0) ?_
  refine z_i2l hx hb dX0_giveUp_4 (by omega) ?_
  refine lv_lstore_n (lv' := [(3, .long (lN D0)), (0, .ref h), (1, .long (lN R1))]) hx hb dX0_giveUp_5 rfl hl (by decide) rfl (fun ls hl => ?_)
  refine lv_aload_n hx hb dX0_giveUp_6 rfl (lv_at hl 1 rfl) ?_
  refine z_av (wa := []) (wc := [(h, .inr (0, [.int (nI rt), .int (nI lf), .ref pa, .ref da, .int (nI T), .int (nI P), .long (lN R0), .long xI, .long xP, .long xW, .long xG])), (pa, .inl (g.2.1, 120, .inl u)), (da, .inl (g.2.1, 121, .inl v))]) (wb := []) (va_runV (As := []) (rest := []) ⟨hx, hb, hml, hown, hts⟩ (c_layDebts l g h pa da rt lf T P (lN R0) xI xP xW xG u v py hT hPT hp hu hrt H.size _ rfl) (cwV 0 hts gX0_giveUp_X0_layDebts rfl rfl rfl (by decide +kernel) ⟨Nat.le_of_ble_eq_true rfl, Nat.le_of_ble_eq_true rfl⟩) (zpreV (wa := []) (wc := [(h, .inr (0, [.int (nI rt), .int (nI lf), .ref pa, .ref da, .int (nI T), .int (nI P), .long (lN R0), .long xI, .long xP, .long xW, .long xG])), (pa, .inl (g.2.1, 120, .inl u)), (da, .inl (g.2.1, 121, .inl v))]) (wb := []) (q0 := 0) (ci := 0) (T := TX0) (N := 11) hK hP hD rfl rfl) rfl rfl hl.1 rfl (lv_room (Nat.le_of_ble_eq_true rfl)) dX0_giveUp_7 ⟨Nat.le_of_ble_eq_true rfl, Nat.le_of_ble_eq_true rfl⟩) hP hD hS hA (fun w1 H locs hq hP hD hS => ?_)
  obtain ⟨v2, rfl, hv2⟩ := hq
  have hP : va_P g.1 vwCl [(h, .inr (0, [.int (nI rt), .int (nI lf), .ref pa, .ref da, .int (nI T), .int (nI P), .long (lN R0), .long xI, .long xP, .long xW, .long xG])), (pa, .inl (g.2.1, 120, .inl u)), (da, .inl (g.2.1, 121, .inl v2))] H := hP
  have hD : va_D A [(h, .inr (0, [.int (nI rt), .int (nI lf), .ref pa, .ref da, .int (nI T), .int (nI P), .long (lN R0), .long xI, .long xP, .long xW, .long xG])), (pa, .inl (g.2.1, 120, .inl u)), (da, .inl (g.2.1, 121, .inl v2))] := hD
  refine lv_lload_n hx hb dX0_giveUp_10 rfl (lv_at hl 0 rfl) ?_
  refine lv_aload_n hx hb dX0_giveUp_11 rfl (lv_at hl 1 rfl) ?_
  refine z_ai (wa := []) (wc := [(h, .inr (0, [.int (nI rt), .int (nI lf), .ref pa, .ref da, .int (nI T), .int (nI P), .long (lN R0), .long xI, .long xP, .long xW, .long xG])), (pa, .inl (g.2.1, 120, .inl u)), (da, .inl (g.2.1, 121, .inl v2))]) (wb := []) (va_runV (As := []) (rest := [.long (lN D0)]) ⟨hx, hb, hml, hown, hts⟩ (c_debtNow l g h pa da rt lf T P (lN R0) xI xP xW xG u v2 (by omega) H.size _ rfl) (cwV 0 hts gX0_giveUp_X0_debtNow rfl rfl rfl (by decide +kernel) ⟨Nat.le_of_ble_eq_true rfl, Nat.le_of_ble_eq_true rfl⟩) (zpreV (wa := []) (wc := [(h, .inr (0, [.int (nI rt), .int (nI lf), .ref pa, .ref da, .int (nI T), .int (nI P), .long (lN R0), .long xI, .long xP, .long xW, .long xG])), (pa, .inl (g.2.1, 120, .inl u)), (da, .inl (g.2.1, 121, .inl v2))]) (wb := []) (q0 := 0) (ci := 0) (T := TX0) (N := 11) hK hP hD rfl rfl) rfl rfl hl.1 rfl (lv_room (Nat.le_of_ble_eq_true rfl)) dX0_giveUp_12 ⟨Nat.le_of_ble_eq_true rfl, Nat.le_of_ble_eq_true rfl⟩) hP hD hS hA (fun r_3 w1 H locs hq hP hD hS => ?_)
  obtain ⟨rfl, rfl⟩ := hq
  have hP : va_P g.1 vwCl [(h, .inr (0, [.int (nI rt), .int (nI lf), .ref pa, .ref da, .int (nI T), .int (nI P), .long (lN R0), .long xI, .long xP, .long xW, .long xG])), (pa, .inl (g.2.1, 120, .inl u)), (da, .inl (g.2.1, 121, .inl v2))] H := hP
  have hD : va_D A [(h, .inr (0, [.int (nI rt), .int (nI lf), .ref pa, .ref da, .int (nI T), .int (nI P), .long (lN R0), .long xI, .long xP, .long xW, .long xG])), (pa, .inl (g.2.1, 120, .inl u)), (da, .inl (g.2.1, 121, .inl v2))] := hD
  refine zi (y := nI (zWr rt py T (T - P))) (hv2 P (by omega) (by omega)) ?_
  refine z_i2l hx hb dX0_giveUp_15 (by omega) ?_
  refine lv_lsub hx hb dX0_giveUp_16 ?_
  refine lv_aload_n hx hb dX0_giveUp_17 rfl (lv_at hl 1 rfl) ?_
  refine va_get (D := g.1) (ci := 0) (v := .long (lN R0)) (C := RX0) (T := TX0) (N := 11) hx hb hts hinX0 hown hK hP 0 rfl rfl 6 (by decide) (hts (.fieldLink RX0 48 "Usewise$Lease" "right" "J") (by decide +kernel)) (fun _ h9 => h9) rfl dX0_giveUp_18 ?_
  refine lv_lload_n hx hb dX0_giveUp_21 rfl (lv_at hl 2 rfl) ?_
  refine lv_lsub hx hb dX0_giveUp_22 ?_
  refine lv_lsub hx hb dX0_giveUp_23 ?_
  refine lv_lstore (lv' := [(5, .long (((lN D0) - (lN (zWr rt py T (T - P)))) - ((lN R0) - (lN R1)))), (3, .long (lN D0)), (0, .ref h), (1, .long (lN R1))]) hx hb dX0_giveUp_24 hl (by decide) rfl (fun ls hl => ?_)
  refine lv_aload_n hx hb dX0_giveUp_26 rfl (lv_at hl 2 rfl) ?_
  refine lv_lload_n hx hb dX0_giveUp_27 rfl (lv_at hl 3 rfl) ?_
  refine va_put (D := g.1) (ci := 0) (v := .long (lN R1)) (ty := .long) (C := RX0) (T := TX0) (N := 11) hx hb hts hinX0 tyX0 tyX0_ok nmX0 hown hK hP hD hS 0 rfl rfl 6 (by decide) (hts (.fieldLink RX0 48 "Usewise$Lease" "right" "J") (by decide +kernel)) (fun _ h9 => h9) rfl (by decide +kernel) rfl rfl (Nat.le_of_ble_eq_true rfl) dX0_giveUp_28 (fun H locs hP hD hS => ?_)
  have hP : va_P g.1 vwCl [(h, .inr (0, [.int (nI rt), .int (nI lf), .ref pa, .ref da, .int (nI T), .int (nI P), .long (lN R1), .long xI, .long xP, .long xW, .long xG])), (pa, .inl (g.2.1, 120, .inl u)), (da, .inl (g.2.1, 121, .inl v2))] H := hP
  have hD : va_D A [(h, .inr (0, [.int (nI rt), .int (nI lf), .ref pa, .ref da, .int (nI T), .int (nI P), .long (lN R1), .long xI, .long xP, .long xW, .long xG])), (pa, .inl (g.2.1, 120, .inl u)), (da, .inl (g.2.1, 121, .inl v2))] := hD
  refine lv_aload_n hx hb dX0_giveUp_31 rfl (lv_at hl 2 rfl) ?_
  refine lv_dup hx hb dX0_giveUp_32 rfl ?_
  refine va_get (D := g.1) (ci := 0) (v := .long xG) (C := RX0) (T := TX0) (N := 11) hx hb hts hinX0 hown hK hP 0 rfl rfl 10 (by decide) (hts (.fieldLink RX0 96 "Usewise$Lease" "gains" "J") (by decide +kernel)) (fun _ h9 => h9) rfl dX0_giveUp_33 ?_
  refine lv_lload hx hb dX0_giveUp_36 (lv_at hl 0 rfl) ?_
  refine lv_ladd hx hb dX0_giveUp_38 ?_
  refine va_put (D := g.1) (ci := 0) (v := .long (xG + (((lN D0) - (lN (zWr rt py T (T - P)))) - ((lN R0) - (lN R1))))) (ty := .long) (C := RX0) (T := TX0) (N := 11) hx hb hts hinX0 tyX0 tyX0_ok nmX0 hown hK hP hD hS 0 rfl rfl 10 (by decide) (hts (.fieldLink RX0 96 "Usewise$Lease" "gains" "J") (by decide +kernel)) (fun _ h9 => h9) rfl (by decide +kernel) rfl rfl (Nat.le_of_ble_eq_true rfl) dX0_giveUp_39 (fun H locs hP hD hS => ?_)
  have hP : va_P g.1 vwCl [(h, .inr (0, [.int (nI rt), .int (nI lf), .ref pa, .ref da, .int (nI T), .int (nI P), .long (lN R1), .long xI, .long xP, .long xW, .long (xG + (((lN D0) - (lN (zWr rt py T (T - P)))) - ((lN R0) - (lN R1))))])), (pa, .inl (g.2.1, 120, .inl u)), (da, .inl (g.2.1, 121, .inl v2))] H := hP
  have hD : va_D A [(h, .inr (0, [.int (nI rt), .int (nI lf), .ref pa, .ref da, .int (nI T), .int (nI P), .long (lN R1), .long xI, .long xP, .long xW, .long (xG + (((lN D0) - (lN (zWr rt py T (T - P)))) - ((lN R0) - (lN R1))))])), (pa, .inl (g.2.1, 120, .inl u)), (da, .inl (g.2.1, 121, .inl v2))] := hD
  refine lv_lload hx hb dX0_giveUp_42 (lv_at hl 0 rfl) ?_
  refine lv_l2i hx hb dX0_giveUp_44 rfl ?_
  exact z_iret hx hb hr hP hK hD hS dX0_giveUp_45 hlocks (⟨v2, _, rfl, hv2, by rw [z64_sub, z64_sub, z64_sub, lN_i, lN_i, lN_i, lN_i], by rw [z64_add]⟩)
