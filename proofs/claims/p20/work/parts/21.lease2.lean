/-! the class of a lease: loops -/
theorem z_dlt {k P : Nat} (hk : k ≤ 120) (hP : P ≤ 120) : nI k + (-1) < nI P ↔ k ≤ P := by
  rw [← z_m1, Int32.lt_iff_toInt_lt, pk_sub_toInt (by omega) (by omega), nI_toInt (by omega)]
  omega
theorem z_wb {r P T j : Nat} {p : Nat → Nat} (hT : T ≤ 120) (hp : ∀ j, P ≤ j → j < T → p j ≤ 1000000) (hj : P ≤ j) : zWr r p T (T - j) ≤ 120000000 := by
  have := zWr_le (r := r) (M := 1000000) (p := p) (T := T) (T - j) (fun i a b => hp i (by omega) b) (by omega)
  omega
set_option maxHeartbeats 4000000 in
set_option maxRecDepth 100000 in
theorem c_worthAt (l : Launch) (g : zG) (h pa da rt lf T P : Nat) (R xI xP xW xG : Int64) (u v : Nat → Int32) (py : Nat → Nat) (rr : Nat) (hT : T ≤ 120) (hPT : P ≤ T) (hp : ∀ j, P ≤ j → j < T → py j ≤ 1000000) (hu : ∀ j, P ≤ j → j < T → u j = nI (py j)) (hrr : rr ≤ 20000) : zMl l yX0_worthAt wsX0_worthAt ({ frames := 1, cells := 0, slots := 0, locals := 24 } : Room) [.ref h, .int (nI rr)] g [(h, .inr (0, [.int (nI rt), .int (nI lf), .ref pa, .ref da, .int (nI T), .int (nI P), .long R, .long xI, .long xP, .long xW, .long xG])), (pa, .inl (g.2.1, 120, .inl u)), (da, .inl (g.2.1, 121, .inl v))] (fun q w => q = lN (zWr rr py T (T - P)) ∧ w = [(h, .inr (0, [.int (nI rt), .int (nI lf), .ref pa, .ref da, .int (nI T), .int (nI P), .long R, .long xI, .long xP, .long xW, .long xG])), (pa, .inl (g.2.1, 120, .inl u)), (da, .inl (g.2.1, 121, .inl v))]) 0 0 := by
  intro sz A hAe
  refine Met.ofW (cc := cX0_worthAt) (maxL := 5) (ret := some .long) (by decide) rfl ?_
  intro p e s m args below meth c s₁ B hml hv
  obtain ⟨rfl, hsz, hP, hK, hD0⟩ := hv
  have hx := B.exec
  have hb := B.bytes
  have hr := B.returns
  have hts := atoms_spec (ws := wsX0_worthAt) B.pre
  have hown : s.vm.findClass RX0 = some m.cls := findClass_of_methodNamed B.named
  have hlocks := B.notSynchronized
  obtain ⟨hD, hA, hS⟩ := z_in hsz hAe hD0
  have hl := lv_entry ([.ref h, .int (nI rr)]) (n := 5) (Nat.le_of_ble_eq_true rfl)
  rw [lg_entry_eq]
  generalize (lg_sl ([.ref h, .int (nI rr)]) ++ List.replicate (5 - (lg_sl ([.ref h, .int (nI rr)])).length) Slot.unset).toArray = ls at hl ⊢
  have hl : lv_has ls 5 [(0, .ref h), (1, .int (nI rr))] := hl
  have hinX0 : ∀ w ∈ wsX00, w ∈ wsX0_worthAt := by decide +kernel
  refine lv_lconst (v := lN 0) hx hb dX0_worthAt_0 rfl ?_
  refine zl (y := lN (zWr rr py T (T - T))) (by rw [Nat.sub_self]; rfl) ?_
  refine lv_lstore_n (lv' := [(2, .long (lN (zWr rr py T (T - T)))), (0, .ref h), (1, .int (nI rr))]) hx hb dX0_worthAt_1 rfl hl (by decide) rfl (fun ls hl => ?_)
  refine lv_aload_n hx hb dX0_worthAt_2 rfl (lv_at hl 1 rfl) ?_
  refine va_get (D := g.1) (ci := 0) (v := .int (nI T)) (C := RX0) (T := TX0) (N := 11) hx hb hts hinX0 hown hK hP 0 rfl rfl 4 (by decide) (hts (.fieldLink RX0 27 "Usewise$Lease" "term" "I") (by decide +kernel)) (fun _ h9 => h9) rfl dX0_worthAt_3 ?_
  refine lv_iconst (v := nI 1) hx hb dX0_worthAt_6 (by decide) ?_
  refine lv_isub hx hb dX0_worthAt_7 ?_
  refine zi (y := nI T + (-1)) (z_m1 T) ?_
  refine lv_istore (lv' := [(4, .int (nI T + (-1))), (2, .long (lN (zWr rr py T (T - T)))), (0, .ref h), (1, .int (nI rr))]) hx hb dX0_worthAt_8 hl (by decide) rfl (fun ls hl => ?_)
  have loop : ∀ (n : Nat) (k : Nat) (H : Heap) (locs : List Loc) (ls : Array Slot), k < n → P ≤ k → k ≤ T → va_P g.1 vwCl [(h, .inr (0, [.int (nI rt), .int (nI lf), .ref pa, .ref da, .int (nI T), .int (nI P), .long R, .long xI, .long xP, .long xW, .long xG])), (pa, .inl (g.2.1, 120, .inl u)), (da, .inl (g.2.1, 121, .inl v))] H → va_D A [(h, .inr (0, [.int (nI rt), .int (nI lf), .ref pa, .ref da, .int (nI T), .int (nI P), .long R, .long xI, .long xP, .long xW, .long xG])), (pa, .inl (g.2.1, 120, .inl u)), (da, .inl (g.2.1, 121, .inl v))] → va_S A s.heap H locs → lv_has ls 5 [(2, .long (lN (zWr rr py T (T - k)))), (4, .int (nI k + (-1))), (0, .ref h), (1, .int (nI rr))] → W p l e (headSpec wsX0_worthAt ({ frames := 1, cells := 0, slots := 0, locals := 24 } : Room)).room s m ([.ref h, .int (nI rr)] : List Value).toArray below meth c H locs 0 0 (MQ below (va_Ql (fun q w => q = lN (zWr rr py T (T - P)) ∧ w = [(h, .inr (0, [.int (nI rt), .int (nI lf), .ref pa, .ref da, .int (nI T), .int (nI P), .long R, .long xI, .long xP, .long xW, .long xG])), (pa, .inl (g.2.1, 120, .inl u)), (da, .inl (g.2.1, 121, .inl v))]) (zOut g A) A) ([.ref h, .int (nI rr)] : List Value).toArray s 0 0 A) (F0 m 10 ls []) := by
    intro n
    induction n with
    | zero =>
      intro k H locs ls hn hk1 hk2 hP hD hS hl
      omega
    | succ n ih =>
      intro k H locs ls hn hk1 hk2 hP hD hS hl
      refine lv_iload hx hb dX0_worthAt_10 (lv_at hl 1 rfl) ?_
      refine lv_aload_n hx hb dX0_worthAt_12 rfl (lv_at hl 2 rfl) ?_
      refine va_get (D := g.1) (ci := 0) (v := .int (nI P)) (C := RX0) (T := TX0) (N := 11) hx hb hts hinX0 hown hK hP 0 rfl rfl 5 (by decide) (hts (.fieldLink RX0 52 "Usewise$Lease" "past" "I") (by decide +kernel)) (fun _ h9 => h9) rfl dX0_worthAt_13 ?_
      refine lv_icmp_lt (tgt := 42) hx hb dX0_worthAt_16 (by decide) (fun hc => ?_) (fun hc => ?_)
      · have hk : k = P := by have := (z_dlt (by omega) (by omega)).mp hc; omega
        refine lv_lload_n hx hb dX0_worthAt_42 rfl (lv_at hl 0 rfl) ?_
        refine zl (y := lN (zWr rr py T (T - P))) (by rw [hk]) ?_
        exact z_lret hx hb hr hP hK hD hS dX0_worthAt_43 hlocks (⟨rfl, rfl⟩)
      · have hk : P < k := by have := mt (z_dlt (by omega) (by omega)).mpr hc; omega
        obtain ⟨j, rfl⟩ : ∃ j, k = j + 1 := ⟨k - 1, by omega⟩
        have hpj := hp j (by omega) (by omega)
        have hwj := z_wb (r := rr) (j := j + 1) hT hp (by omega)
        refine lv_lload_n hx hb dX0_worthAt_19 rfl (lv_at hl 0 rfl) ?_
        refine lv_aload_n hx hb dX0_worthAt_20 rfl (lv_at hl 2 rfl) ?_
        refine va_get (D := g.1) (ci := 0) (v := .ref pa) (C := RX0) (T := TX0) (N := 11) hx hb hts hinX0 hown hK hP 0 rfl rfl 2 (by decide) (hts (.fieldLink RX0 30 "Usewise$Lease" "payments" "[I") (by decide +kernel)) (fun _ h9 => h9) rfl dX0_worthAt_21 ?_
        refine lv_iload hx hb dX0_worthAt_24 (lv_at hl 1 rfl) ?_
        refine zi (y := nI j) (pk_m1 j) ?_
        refine z_ai (wa := [(h, .inr (0, [.int (nI rt), .int (nI lf), .ref pa, .ref da, .int (nI T), .int (nI P), .long R, .long xI, .long xP, .long xW, .long xG]))]) (wc := [(pa, .inl (g.2.1, 120, .inl u))]) (wb := [(da, .inl (g.2.1, 121, .inl v))]) (va_runS (As := [.ref pa, .int (nI j)]) (rest := [.long (lN (zWr rr py T (T - (j + 1))))]) ⟨hx, hb, hml, hown, hts⟩ (c_at l g pa 120 j u (by omega) (by decide) H.size _ rfl) (va_cwS 2 hts gX0_worthAt_X0_at rfl rfl rfl (by decide +kernel) ⟨Nat.le_of_ble_eq_true rfl, Nat.le_of_ble_eq_true rfl⟩) (zpreS (wa := [(h, .inr (0, [.int (nI rt), .int (nI lf), .ref pa, .ref da, .int (nI T), .int (nI P), .long R, .long xI, .long xP, .long xW, .long xG]))]) (wc := [(pa, .inl (g.2.1, 120, .inl u))]) (wb := [(da, .inl (g.2.1, 121, .inl v))]) hK hP hD) rfl rfl hl.1 rfl (lv_room (Nat.le_of_ble_eq_true rfl)) dX0_worthAt_26 ⟨Nat.le_of_ble_eq_true rfl, Nat.le_of_ble_eq_true rfl⟩) hP hD hS hA (fun r_1 w1 H locs hq hP hD hS => ?_)
        obtain ⟨rfl, rfl⟩ := hq
        have hP : va_P g.1 vwCl [(h, .inr (0, [.int (nI rt), .int (nI lf), .ref pa, .ref da, .int (nI T), .int (nI P), .long R, .long xI, .long xP, .long xW, .long xG])), (pa, .inl (g.2.1, 120, .inl u)), (da, .inl (g.2.1, 121, .inl v))] H := hP
        have hD : va_D A [(h, .inr (0, [.int (nI rt), .int (nI lf), .ref pa, .ref da, .int (nI T), .int (nI P), .long R, .long xI, .long xP, .long xW, .long xG])), (pa, .inl (g.2.1, 120, .inl u)), (da, .inl (g.2.1, 121, .inl v))] := hD
        refine zi (y := nI (py j)) (hu j (by omega) (by omega)) ?_
        refine z_i2l hx hb dX0_worthAt_29 (by omega) ?_
        refine z_ladd hx hb dX0_worthAt_30 ?_
        refine lv_iload_n hx hb dX0_worthAt_31 rfl (lv_at hl 3 rfl) ?_
        refine z_al (wa := [(h, .inr (0, [.int (nI rt), .int (nI lf), .ref pa, .ref da, .int (nI T), .int (nI P), .long R, .long xI, .long xP, .long xW, .long xG])), (pa, .inl (g.2.1, 120, .inl u)), (da, .inl (g.2.1, 121, .inl v))]) (wc := []) (wb := []) (va_runS (As := [.long (lN (zWr rr py T (T - (j + 1)) + (py j))), .int (nI rr)]) (rest := []) ⟨hx, hb, hml, hown, hts⟩ (c_worthBefore l g (zWr rr py T (T - (j + 1)) + py j) rr hrr (by omega) H.size _ rfl) (va_cwS 2 hts gX0_worthAt_X0_worthBefore rfl rfl rfl (by decide +kernel) ⟨Nat.le_of_ble_eq_true rfl, Nat.le_of_ble_eq_true rfl⟩) (zpreS (wa := [(h, .inr (0, [.int (nI rt), .int (nI lf), .ref pa, .ref da, .int (nI T), .int (nI P), .long R, .long xI, .long xP, .long xW, .long xG])), (pa, .inl (g.2.1, 120, .inl u)), (da, .inl (g.2.1, 121, .inl v))]) (wc := []) (wb := []) hK hP hD) rfl rfl hl.1 rfl (lv_room (Nat.le_of_ble_eq_true rfl)) dX0_worthAt_32 ⟨Nat.le_of_ble_eq_true rfl, Nat.le_of_ble_eq_true rfl⟩) hP hD hS hA (fun r_2 w1 H locs hq hP hD hS => ?_)
        obtain ⟨rfl, rfl⟩ := hq
        have hP : va_P g.1 vwCl [(h, .inr (0, [.int (nI rt), .int (nI lf), .ref pa, .ref da, .int (nI T), .int (nI P), .long R, .long xI, .long xP, .long xW, .long xG])), (pa, .inl (g.2.1, 120, .inl u)), (da, .inl (g.2.1, 121, .inl v))] H := hP
        have hD : va_D A [(h, .inr (0, [.int (nI rt), .int (nI lf), .ref pa, .ref da, .int (nI T), .int (nI P), .long R, .long xI, .long xP, .long xW, .long xG])), (pa, .inl (g.2.1, 120, .inl u)), (da, .inl (g.2.1, 121, .inl v))] := hD
        refine zl (y := lN (zWr rr py T (T - j))) (by rw [zWr_at rr py (by omega : j < T)]) ?_
        refine lv_lstore_n (lv' := [(2, .long (lN (zWr rr py T (T - j)))), (4, .int (nI (j + 1) + (-1))), (0, .ref h), (1, .int (nI rr))]) hx hb dX0_worthAt_35 rfl hl (by decide) rfl (fun ls hl => ?_)
        refine lv_iinc (v := nI j + (-1)) (lv' := [(4, .int (nI j + (-1))), (2, .long (lN (zWr rr py T (T - j)))), (0, .ref h), (1, .int (nI rr))]) hx hb dX0_worthAt_36 hl (k := 1) rfl (by rw [pk_m1 j]; rfl) (by decide) rfl (fun ls hl => ?_)
        refine lv_goto (tgt := 10) hx hb dX0_worthAt_39 (by decide) ?_
        exact ih j H _ _ (by omega) (by omega) (by omega) hP hD hS (lv_sub hl [1, 0, 2, 3] rfl)
  exact loop (T + 1) T _ _ _ (by omega) (by omega) (by omega) hP hD hS (lv_sub hl [1, 0, 2, 3] rfl)
