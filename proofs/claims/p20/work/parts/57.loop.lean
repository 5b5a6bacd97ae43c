/-! p20: the loop -/
set_option maxHeartbeats 4000000 in
set_option maxRecDepth 100000 in
theorem law_loop {p : Program} {l : Launch} {e : Env} {s : State} {m : MethodId} {below : List Frame} {meth : Method} {c : Code} {b L : Nat} {xs : Nat → Int32} {g : zG} {ua ar co mo : Nat} (hst : l.stackTraces = false) (hL : L ≤ 260) (C0 : lw_At p s m meth c b L xs) (hK : zK g s) (hX : zX (fun q : Nat => s.heap.size ≤ q) s s.heap) :
    ∀ (n k cnt rv : Nat) (rows : Nat → Option Nat) (cs ms : Nat → Int32) (aa : Nat → Nat × Nat × Nat) (rr ff : Nat → Nat) (zz : Nat → zS) (qq : Nat → zRaw) (H : Heap) (locs : List Loc) (ls : Array Slot), 40 < k + n → k ≤ 40 → zTw cnt rows cs ms aa rr ff zz qq rv → va_P g.1 vwCl (zPw g ua ar co mo cnt rows cs ms aa rr ff zz qq) H → va_D (fun q : Nat => s.heap.size ≤ q) (zPw g ua ar co mo cnt rows cs ms aa rr ff zz qq) → va_S (fun q : Nat => s.heap.size ≤ q) s.heap H locs → lv_has ls 14 [(0, .ref b), (1, .ref ua), (2, .ref co), (3, .ref mo), (4, .int (nI cnt)), (5, .int (nI rv)), (6, .int (nI k))] → W p l e room_1 s m #[Value.ref b] below meth c H locs (20 + 300 * k) (200 + 3000 * k) (lw_Z below #[Value.ref b] s) (F0 m 27 ls []) := by
  obtain ⟨hx, hb, hr, hml, hown, hts0, hXs, hbl, hlocks, hgv⟩ := id C0
  have rc : room_1.cells = 600064 := rfl
  have rs : room_1.slots = 7301640 := rfl
  intro n
  induction n with
  | zero =>
    intro k cnt rv rows cs ms aa rr ff zz qq H locs ls h1 h2
    exfalso; omega
  | succ n ih =>
    intro k cnt rv rows cs ms aa rr ff zz qq H locs ls h1 h2 hI hP hD hS hl
    refine lv_iload hx hb dL_law_27 (lv_at hl 6 rfl) ?_
    refine lv_bipush (v := nI 40) hx hb dL_law_29 (by decide) ?_
    refine z_icmp_ge (tgt := 578) hx hb dL_law_31 (by decide) (by omega) (by omega) (fun hc => ?_) (fun hc => ?_)
    · refine lv_iconst (v := 1) hx hb dL_law_578 (by decide) ?_
      refine va_forget (fun q hq => hS.2.2 q hq) ?_
      refine W.widen (k := 600064) (n := 7301640) (by omega) (by omega) ?_
      exact lw_ret hx hb hr hlocks dL_law_579
    · refine L_step (cN := 20 + 300 * k + 150) (sN := 200 + 3000 * k + 1500) hst hL C0 hK hX (by omega) (by omega) (by omega) (by omega) hI hc hP hD hS hl ?_
      intro cnt rv rows cs ms aa rr ff zz qq H locs ls hI hP hD hS hl
      refine L_check (cN := 20 + 300 * (k + 1)) (sN := 200 + 3000 * (k + 1)) hst hL C0 hK hX (by omega) (by omega) (by omega) (by omega) hI hP hD hS hl ?_
      intro cnt rv rows cs ms aa rr ff zz qq H locs ls hI hP hD hS hl
      exact ih (k + 1) cnt rv rows cs ms aa rr ff zz qq H locs ls (by omega) (by omega) hI hP hD hS hl
