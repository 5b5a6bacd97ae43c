/-! the law's loop -/
theorem z_end {t L : Nat} (hL : L ≤ 4096) (ht : 8 * t ≤ L) (h : ¬ nI (8 * t) > Int32.ofNat L - nI 8) : 8 * t + 8 ≤ L := by
  have e1 : (nI L - nI 8).toInt = (L : Int) - 8 := pk_sub_toInt (by omega) (by omega)
  have e2 : (nI (8 * t)).toInt = ((8 * t : Nat) : Int) := nI_toInt (by omega)
  have h1 : ¬ nI L - nI 8 < nI (8 * t) := h
  rw [Int32.lt_iff_toInt_lt, e1, e2] at h1
  omega
set_option maxHeartbeats 4000000 in
set_option maxRecDepth 100000 in
theorem law_loop {p : Program} {l : Launch} {e : Env} {s : State} {m : MethodId} {below : List Frame} {meth : Method} {c : Code} {b L : Nat} {xs : Nat → Int32} {g : zG} {mo oa ua ar : Nat} {ad : zAd} (hst : l.stackTraces = false) (hL : L ≤ 4096) (C0 : lw_At p s m meth c b L xs) (hK : zK g s) (hX : zX (fun q : Nat => s.heap.size ≤ q) s s.heap) :
    ∀ (n t : Nat) (S : zSt) (th : Int32) (o : Nat → Int64) (H : Heap) (locs : List Loc) (ls : Array Slot), 8 * t ≤ L → L + 8 ≤ 8 * (t + n) → zI S → va_P g.1 vwCl (zWm g mo ad th S.1 S.2.2.2.2.2.2.2 ++ zWc g oa ua ar o S) H → va_D (fun q : Nat => s.heap.size ≤ q) (zWm g mo ad th S.1 S.2.2.2.2.2.2.2 ++ zWc g oa ua ar o S) → va_S (fun q : Nat => s.heap.size ≤ q) s.heap H locs → lv_has ls 7 [(0, .ref b), (1, .ref ua), (2, .ref mo), (3, .ref oa), (4, .int (nI (8 * t)))] → W p l e room_1 s m #[Value.ref b] below meth c H locs (15 + 11 * t) (802 + 301 * t) (lw_Z below #[Value.ref b] s) (F0 m 23 ls []) := by
  obtain ⟨hx, hb, hr, hml, hown, hts0, hXs, hbl, hlocks, hgv⟩ := id C0
  have hA : ∀ q : Nat, s.heap.size ≤ q → (fun q : Nat => s.heap.size ≤ q) q := fun _ h => h
  have hbA : ¬ (fun q : Nat => s.heap.size ≤ q) b := Nat.not_le.mpr hbl
  have rc : room_1.cells = 601024 := rfl
  have rs : room_1.slots = 7293034 := rfl
  intro n
  induction n with
  | zero =>
    intro t S th o H locs ls h1 h2
    exact absurd h2 (by omega)
  | succ n ih =>
    intro t S th o H locs ls ht htn hI hP hD hS hl
    refine lv_iload hx hb dL_law_23 (lv_at hl 4 rfl) ?_
    refine lv_aload_n hx hb dL_law_25 rfl (lv_at hl 0 rfl) ?_
    refine va_slen hx hb hXs hbl hbA hS dL_law_26 ?_
    refine lv_bipush (v := nI 8) hx hb dL_law_27 (by decide) ?_
    refine lv_isub hx hb dL_law_29 ?_
    refine lv_icmp_gt (tgt := 1266) hx hb dL_law_30 (by decide) (fun c_10 => ?_) (fun c_10 => ?_)
    · refine lv_iconst (v := 1) hx hb dL_law_1266 (by decide) ?_
      refine va_forget (fun q hq => hS.2.2 q hq) ?_
      refine W.widen (k := 601024) (n := 7293034) (by omega) (by omega) ?_
      exact lw_ret hx hb hr hlocks dL_law_1267
    · have hlt := z_end hL ht c_10
      have nx : zNx p l e s m below meth c (lw_Z below #[Value.ref b] s) g mo ad oa ua ar b (8 * t) (15 + 11 * t) (802 + 301 * t) := by
        intro S th o H locs ls hI hP hD hS hl
        refine lv_iinc (v := nI (8 * (t + 1))) (lv' := [(4, .int (nI (8 * (t + 1)))), (0, .ref b), (1, .ref ua), (2, .ref mo), (3, .ref oa)]) hx hb dL_law_1260 hl (k := 4) rfl (by rw [show 8 * (t + 1) = 8 * t + 8 by omega, ← nI_add]; rfl) (by decide) rfl (fun ls hl => ?_)
        refine lv_goto (tgt := 23) hx hb dL_law_1263 (by decide) ?_
        refine W.widen (k := 15 + 11 * (t + 1)) (n := 802 + 301 * (t + 1)) (by omega) (by omega) ?_
        exact ih (t + 1) S th o H locs ls (by omega) (by omega) hI hP hD hS (lv_sub hl [1, 2, 3, 4, 0] rfl)
      have hc0 : 15 + 11 * t + 11 ≤ room_1.cells := by omega
      have hs0 : 802 + 301 * t + 301 ≤ room_1.slots := by omega
      refine lv_aload_n hx hb dL_law_33 rfl (lv_at hl 0 rfl) ?_
      refine lv_iload hx hb dL_law_34 (lv_at hl 4 rfl) ?_
      refine z_sld hx hb hXs hbl hbA hS (j := 8 * t) (by omega) hL dL_law_36 ?_
      refine lv_bipush (v := nI 31) hx hb dL_law_37 (by decide) ?_
      refine lv_iand hx hb dL_law_39 ?_
      generalize xs (8 * t) &&& nI 31 = x
      by_cases hsw : x.toInt < 0 ∨ 16 < x.toInt
      · refine lv_tableOut (tgt := 1260) hx hb dL_law_40 hsw (by decide) ?_
        refine W.widen (k := 15 + 11 * t + 11) (n := 802 + 301 * t + 301) (by omega) (by omega) ?_
        exact nx S th o H locs ls hI hP hD hS hl
      · have h17 : x.toInt = 0 ∨ x.toInt = 1 ∨ x.toInt = 2 ∨ x.toInt = 3 ∨ x.toInt = 4 ∨ x.toInt = 5 ∨ x.toInt = 6 ∨ x.toInt = 7 ∨ x.toInt = 8 ∨ x.toInt = 9 ∨ x.toInt = 10 ∨ x.toInt = 11 ∨ x.toInt = 12 ∨ x.toInt = 13 ∨ x.toInt = 14 ∨ x.toInt = 15 ∨ x.toInt = 16 := by omega
        rcases h17 with h | h | h | h | h | h | h | h | h | h | h | h | h | h | h | h | h
        · refine lv_tableIn (off := 84) (tgt := 124) hx hb dL_law_40 (by omega) (by omega) (by rw [h]; rfl) (by decide) ?_
          exact L_add hst hL C0 hK hX (i := 8 * t) (by omega) hc0 hs0 hI hP hD hS hl nx
        · refine lv_tableIn (off := 216) (tgt := 256) hx hb dL_law_40 (by omega) (by omega) (by rw [h]; rfl) (by decide) ?_
          exact L_pass hst hL C0 hK hX (i := 8 * t) (by omega) hc0 hs0 hI hP hD hS hl nx
        · refine lv_tableIn (off := 272) (tgt := 312) hx hb dL_law_40 (by omega) (by omega) (by rw [h]; rfl) (by decide) ?_
          exact L_review hst hL C0 hK hX (i := 8 * t) (by omega) hc0 hs0 hI hP hD hS hl nx
        · refine lv_tableIn (off := 340) (tgt := 380) hx hb dL_law_40 (by omega) (by omega) (by rw [h]; rfl) (by decide) ?_
          exact L_lengthen hst hL C0 hK hX (i := 8 * t) (by omega) hc0 hs0 hI hP hD hS hl nx
        · refine lv_tableIn (off := 420) (tgt := 460) hx hb dL_law_40 (by omega) (by omega) (by rw [h]; rfl) (by decide) ?_
          exact L_shorten hst hL C0 hK hX (i := 8 * t) (by omega) hc0 hs0 hI hP hD hS hl nx
        · refine lv_tableIn (off := 488) (tgt := 528) hx hb dL_law_40 (by omega) (by omega) (by rw [h]; rfl) (by decide) ?_
          exact L_cut hst hL C0 hK hX (i := 8 * t) (by omega) hc0 hs0 hI hP hD hS hl nx
        · refine lv_tableIn (off := 556) (tgt := 596) hx hb dL_law_40 (by omega) (by omega) (by rw [h]; rfl) (by decide) ?_
          exact L_toCome hst hL C0 hK hX (i := 8 * t) (by omega) hc0 hs0 hI hP hD hS hl nx
        · refine lv_tableIn (off := 612) (tgt := 652) hx hb dL_law_40 (by omega) (by omega) (by rw [h]; rfl) (by decide) ?_
          exact L_payment hst hL C0 hK hX (i := 8 * t) (by omega) hc0 hs0 hI hP hD hS hl nx
        · refine lv_tableIn (off := 680) (tgt := 720) hx hb dL_law_40 (by omega) (by omega) (by rw [h]; rfl) (by decide) ?_
          exact L_debt hst hL C0 hK hX (i := 8 * t) (by omega) hc0 hs0 hI hP hD hS hl nx
        · refine lv_tableIn (off := 736) (tgt := 776) hx hb dL_law_40 (by omega) (by omega) (by rw [h]; rfl) (by decide) ?_
          exact L_debtByWorth hst hL C0 hK hX (i := 8 * t) (by omega) hc0 hs0 hI hP hD hS hl nx
        · refine lv_tableIn (off := 792) (tgt := 832) hx hb dL_law_40 (by omega) (by omega) (by rw [h]; rfl) (by decide) ?_
          exact L_right hst hL C0 hK hX (i := 8 * t) (by omega) hc0 hs0 hI hP hD hS hl nx
        · refine lv_tableIn (off := 848) (tgt := 888) hx hb dL_law_40 (by omega) (by omega) (by rw [h]; rfl) (by decide) ?_
          exact L_interest hst hL C0 hK hX (i := 8 * t) (by omega) hc0 hs0 hI hP hD hS hl nx
        · refine lv_tableIn (off := 904) (tgt := 944) hx hb dL_law_40 (by omega) (by omega) (by rw [h]; rfl) (by decide) ?_
          exact L_written hst hL C0 hK hX (i := 8 * t) (by omega) hc0 hs0 hI hP hD hS hl nx
        · refine lv_tableIn (off := 960) (tgt := 1000) hx hb dL_law_40 (by omega) (by omega) (by rw [h]; rfl) (by decide) ?_
          exact L_paid hst hL C0 hK hX (i := 8 * t) (by omega) hc0 hs0 hI hP hD hS hl nx
        · refine lv_tableIn (off := 1016) (tgt := 1056) hx hb dL_law_40 (by omega) (by omega) (by rw [h]; rfl) (by decide) ?_
          exact L_gains hst hL C0 hK hX (i := 8 * t) (by omega) hc0 hs0 hI hP hD hS hl nx
        · refine lv_tableIn (off := 1072) (tgt := 1112) hx hb dL_law_40 (by omega) (by omega) (by rw [h]; rfl) (by decide) ?_
          exact L_rateFor hst hL C0 hK hX (i := 8 * t) (by omega) hc0 hs0 hI hP hD hS hl nx
        · refine lv_tableIn (off := 1140) (tgt := 1180) hx hb dL_law_40 (by omega) (by omega) (by rw [h]; rfl) (by decide) ?_
          exact L_saleGain hst hL C0 hK hX (i := 8 * t) (by omega) hc0 hs0 hI hP hD hS hl nx
