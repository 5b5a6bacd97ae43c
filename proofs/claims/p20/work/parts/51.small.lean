/-! p20: the law's own small methods -/
theorem zXi.to {l : Launch} {y : MethodName} {wsy : List Cond} {rm : Room} {av : List Value} {g : zG} {ws : va_W} {post : Int32 → va_W → Prop} {XE : String → Prop} {mc ms : Nat} (h : zXi l y wsy rm av g ws post XE mc ms) (hn : ∀ E, XE E → False) : zWi l y wsy rm av g ws post mc ms := by
  intro sz A hAe p e ha hc hk s m args below hf happ hv hkk
  obtain ⟨n, o, h1, h2, h3, hq | ⟨q, ho, E, ce, L, ⟨u, hu, hB, hz⟩, hr⟩⟩ := h sz A hAe p e ha hc hk s m args below hf happ hv hkk
  · exact ⟨n, o, h1, h2, h3, hq⟩
  · exact (hn E hB.1).elim
theorem zWi.imp {l : Launch} {y : MethodName} {wsy : List Cond} {rm : Room} {av : List Value} {g : zG} {ws : va_W} {post post' : Int32 → va_W → Prop} {mc ms : Nat} (h : zWi l y wsy rm av g ws post mc ms) (hq : ∀ r w, post r w → post' r w) : zWi l y wsy rm av g ws post' mc ms := by
  intro sz A hAe p e ha hc hk s m args below hf happ hv hkk
  obtain ⟨n, o, h1, h2, h3, ⟨⟨r, u, ho, hp, hz⟩, hF⟩, hL⟩ := h sz A hAe p e ha hc hk s m args below hf happ hv hkk
  exact ⟨n, o, h1, h2, h3, ⟨⟨r, u, ho, hq r u hp, hz⟩, hF⟩, hL⟩
/-- more of the world than the call asks for -/
theorem zWi.frame {l : Launch} {y : MethodName} {wsy : List Cond} {rm : Room} {av : List Value} {g : zG} {ws wc wx : va_W} {post post' : Int32 → va_W → Prop} {mc ms : Nat} (hp : ws.Perm (wc ++ wx)) (h : zWi l y wsy rm av g wc post mc ms) (hq : ∀ r w1, post r w1 → ∃ w2 : va_W, w2.Perm (w1 ++ wx) ∧ post' r w2) : zWi l y wsy rm av g ws post' mc ms := by
  intro sz A hAe p e ha hc hk s m args below hf happ hv hkk
  obtain ⟨ea, ⟨hsz, hP, hK, hD0⟩, hX⟩ := hv
  obtain ⟨hD, hA, hS⟩ := z_in hsz hAe hD0
  have hP' : va_P g.1 vwCl ([] ++ wc ++ wx) s.heap := zP_perm hP hp.symm
  have hD' : va_D A ([] ++ wc ++ wx) := zD_perm hD hp.symm
  have hF : ∀ q, va_A wc s.heap.size q → A q := zfree hD' hS hA
  obtain ⟨n, o, h1, h2, h3, ⟨⟨r, u, ho, hpost, hP1, hK1, hD1⟩, hFr⟩, LL, h5, h6⟩ := h s.heap.size _ rfl p e ha hc hk s m args below hf happ ⟨ea, ⟨rfl, zP_mid hP', hK, (zD_mid hD').weaken (fun _ _ _ _ => trivial)⟩, ⟨hX.1.narrow hF, hX.2.1.narrow hF, hX.2.2⟩⟩ hkk
  obtain ⟨w2, hw2, hpost2⟩ := hq r u hpost
  obtain ⟨hP2, hD2⟩ := zjoin hP' hD' hFr.2 hF hP1 hD1
  exact ⟨n, o, h1, h2, h3, ⟨⟨r, w2, ho, hpost2, zP_perm hP2 hw2, hK1, zD_perm hD2 hw2⟩, hFr.1, fun q a b => hFr.2 q a (fun h => b (hF q h))⟩, LL, h5, fun q hq => hF _ (h6 q hq)⟩
section ZC0
variable {p : Program} {l : Launch} {e : Env} {R : Room} {s : State} {m : MethodId} {args : Array Value} {below : List Frame} {meth : Method} {c : Code} {H : Heap} {locs : List Loc} {cells slots : Nat} {Q : State → Prop}
variable {pc : Nat} {ls : Array Slot} {rest st : List Value} {g : zG} {A : Nat → Prop} {wc : va_W} {mc ms ci N : Nat} {C : String} {T : u_T} {b : Addr} {As fs : List Value}
theorem zpreXV0 (hK : zK g s) (hP : va_P g.1 vwCl wc H) (hD : va_D A wc) (hS : va_S A s.heap H locs) (hA : ∀ q, s.heap.size ≤ q → A q) (hX : zX A s s.heap) {q0 : Nat} (hr : wc[q0]? = some (b, .inr (ci, fs))) (hci : vwCl[ci]? = some (C, T, N)) : PreV s H C b (zPX (.ref b :: As) g wc H.size (va_A wc H.size)) As :=
  zpreXV (wa := []) (wb := []) hK (by rw [List.nil_append, List.append_nil]; exact hP) (by rw [List.nil_append, List.append_nil]; exact hD) hS hA hX hr hci
theorem zpreXS0 (hK : zK g s) (hP : va_P g.1 vwCl wc H) (hD : va_D A wc) (hS : va_S A s.heap H locs) (hA : ∀ q, s.heap.size ≤ q → A q) (hX : zX A s s.heap) : PreS s H (zPX As g wc H.size (va_A wc H.size)) As :=
  zpreXS (wa := []) (wb := []) hK (by rw [List.nil_append, List.append_nil]; exact hP) (by rw [List.nil_append, List.append_nil]; exact hD) hS hA hX
theorem z_ai0 {post : Int32 → va_W → Prop} {a : Array Value} (hr : va_Run p l e R s m args below meth c H locs cells slots mc ms (F0 m pc ls st) rest (va_Qi post (zOut g (va_A wc H.size)) (va_A wc H.size) a) (va_A wc H.size)) (hP : va_P g.1 vwCl wc H) (hD : va_D A wc) (hS : va_S A s.heap H locs) (hA : ∀ q, s.heap.size ≤ q → A q)
    (kk : ∀ (r : Int32) (w1 : va_W) (H1 : Heap) (locs1 : List Loc), post r w1 → va_P g.1 vwCl w1 H1 → va_D A w1 → va_S A s.heap H1 locs1 → W p l e R s m args below meth c H1 locs1 (cells + mc) (slots + ms) Q (F0 m (pc + 3) ls (.int r :: rest))) : W p l e R s m args below meth c H locs cells slots Q (F0 m pc ls st) :=
  z_ai (wa := []) (wb := []) hr (by rw [List.nil_append, List.append_nil]; exact hP) (by rw [List.nil_append, List.append_nil]; exact hD) hS hA (fun r w1 H1 locs1 hq hP1 hD1 hS1 => kk r w1 H1 locs1 hq (by rw [List.nil_append, List.append_nil] at hP1; exact hP1) (by rw [List.nil_append, List.append_nil] at hD1; exact hD1) hS1)
end ZC0
set_option maxHeartbeats 4000000 in
set_option maxRecDepth 100000 in
theorem c_low (l : Launch) (g : zG) (x : Int32) (k : Nat) (hk : 0 < k) (hk2 : k < 2 ^ 31) : zMi l yL_low wsL_low ({ frames := 1, cells := 0, slots := 0, locals := 20 } : Room) [.int x, .int (nI k)] g [] (fun q w => (∃ t, t < k ∧ q = nI t) ∧ w = []) 0 0 := by
  intro sz A hAe
  refine Met.ofW (cc := cL_low) (maxL := 2) (ret := some .int) (by decide) rfl ?_
  intro p e s m args below meth c s₁ B hml hv
  obtain ⟨rfl, hsz, hP, hK, hD0⟩ := hv
  have hx := B.exec
  have hb := B.bytes
  have hr := B.returns
  have hts := atoms_spec (ws := wsL_low) B.pre
  have hown : s.vm.findClass RL = some m.cls := findClass_of_methodNamed B.named
  have hlocks := B.notSynchronized
  obtain ⟨hD, hA, hS⟩ := z_in hsz hAe hD0
  have hl := lv_entry ([.int x, .int (nI k)]) (n := 2) (Nat.le_of_ble_eq_true rfl)
  rw [lg_entry_eq]
  generalize (lg_sl ([.int x, .int (nI k)]) ++ List.replicate (2 - (lg_sl ([.int x, .int (nI k)])).length) Slot.unset).toArray = ls at hl ⊢
  have hl : lv_has ls 2 [(0, .int x), (1, .int (nI k))] := hl
  refine lv_iload_n hx hb dL_low_0 rfl (lv_at hl 0 rfl) ?_
  refine lv_ldc (v := nI 2147483647) hx hb hown (hts (.constant RL 9 (2147483647)) (by decide +kernel)) dL_low_1 ?_
  refine lv_iand hx hb dL_low_3 ?_
  obtain ⟨t, ht, et⟩ := pk_andE x (m := nI 2147483647) 31 (by decide +kernel)
  refine zi (y := nI t) (et) ?_
  refine lv_iload_n hx hb dL_low_4 rfl (lv_at hl 1 rfl) ?_
  refine lv_irem hx hb dL_low_5 (nI_ne0 hk hk2) ?_
  refine zi (y := nI (t % k)) (pk_rem ht hk hk2) ?_
  exact z_iret hx hb hr hP hK hD hS dL_low_6 hlocks (⟨⟨t % k, Nat.mod_lt _ hk, rfl⟩, rfl⟩)

set_option maxHeartbeats 4000000 in
set_option maxRecDepth 100000 in
theorem c_cell (l : Launch) (g : zG) (b L : Nat) (xs : Nat → Int32) (k : Nat) (hL : L < 2 ^ 31) (hk : k < 2 ^ 31) (sz : Nat) (A : Nat → Prop) (hAe : A = va_A ([] : va_W) sz) : Met l yL_cell wsL_cell ({ frames := 1, cells := 0, slots := 0, locals := 20 } : Room) (va_Pc [.ref b, .int (nI k)] (fun U => zIn g [] sz U ∧ va_X b L xs U U.heap ∧ b < sz)) (va_Qi (fun _ w => w = []) (zOut g A) A) 0 0 A := by
  have hrfl := hAe
  refine Met.ofW (cc := cL_cell) (maxL := 2) (ret := some .int) (by decide) rfl ?_
  intro p e s m args below meth c s₁ B hml hv
  obtain ⟨rfl, ⟨hsz, hP, hK, hD0⟩, hXs, hbl⟩ := hv
  have hbl2 : b < s.heap.size := by rw [hsz]; exact hbl
  have hbA : ¬ A b := fun z => by
    rw [hAe] at z
    rcases zA_iff.mp z with ⟨e1, h1⟩ | h1
    · cases h1
    · omega
  have hx := B.exec
  have hb := B.bytes
  have hr := B.returns
  have hts := atoms_spec (ws := wsL_cell) B.pre
  have hown : s.vm.findClass RL = some m.cls := findClass_of_methodNamed B.named
  have hlocks := B.notSynchronized
  obtain ⟨hD, hA, hS⟩ := z_in hsz hAe hD0
  have hl := lv_entry ([.ref b, .int (nI k)]) (n := 2) (Nat.le_of_ble_eq_true rfl)
  rw [lg_entry_eq]
  generalize (lg_sl ([.ref b, .int (nI k)]) ++ List.replicate (2 - (lg_sl ([.ref b, .int (nI k)])).length) Slot.unset).toArray = ls at hl ⊢
  have hl : lv_has ls 2 [(0, .ref b), (1, .int (nI k))] := hl
  refine lv_iload_n hx hb dL_cell_0 rfl (lv_at hl 1 rfl) ?_
  refine lv_aload_n hx hb dL_cell_1 rfl (lv_at hl 0 rfl) ?_
  refine va_slen hx hb hXs hbl2 hbA hS dL_cell_2 ?_
  refine zi (y := nI L) (rfl) ?_
  refine z_icmp_ge (tgt := 12) hx hb dL_cell_3 (by decide) (by omega) (by omega) (fun hc => ?_) (fun hc => ?_)
  · refine lv_ldc (v := nI 26810017) hx hb hown (hts (.constant RL 7 (26810017)) (by decide +kernel)) dL_cell_12 ?_
    refine lv_iload_n hx hb dL_cell_14 rfl (lv_at hl 1 rfl) ?_
    refine z_imul hx hb dL_cell_15 ?_
    refine lv_ldc (v := nI 50119) hx hb hown (hts (.constant RL 8 (50119)) (by decide +kernel)) dL_cell_16 ?_
    refine z_iadd hx hb dL_cell_18 ?_
    exact z_iret hx hb hr hP hK hD hS dL_cell_19 hlocks rfl
  · refine lv_aload_n hx hb dL_cell_6 rfl (lv_at hl 0 rfl) ?_
    refine lv_iload_n hx hb dL_cell_7 rfl (lv_at hl 1 rfl) ?_
    refine va_sld hx hb hXs hbl2 hbA hS (vp_in_nI hc hL) dL_cell_8 ?_
    refine lv_goto (tgt := 19) hx hb dL_cell_9 (by decide) ?_
    exact z_iret hx hb hr hP hK hD hS dL_cell_19 hlocks rfl

set_option maxHeartbeats 4000000 in
set_option maxRecDepth 100000 in
theorem c_adds (l : Launch) (g : zG) (ua ar cnt : Nat) (rows : Nat → Option Nat) (j : Nat) (h pa da rt lf T P R0 : Nat) (py : Nat → Nat) (I Pd Wn G : Int32) (xI xP xW xG : Int64) (u v : Nat → Int32) (c0 : Int32) (ii : Nat) (hst : l.stackTraces = false) (hj : j < 6) (hrow : rows j = some h) (hZ : zInv rt lf (T, P, py, R0, I, Pd, Wn, G)) (hC : zCR rt (T, P, py, R0, I, Pd, Wn, G) (xI, xP, xW, xG, u, v)) (hsum : nI R0 + Wn + I = nI (zWr rt py T (T - P)) + c0 + Pd + G) (hover : P = T → R0 = 0) (hint : I = nI ii) (hii : ii < 2 ^ 31) : zWi l yL_adds wsL_adds ({ frames := 8, cells := 13, slots := 78, locals := 180 } : Room) [.ref ua, .int (nI j), .int c0] g [(ua, .inr (1, [.ref ar, .int (nI cnt)])), (ar, .inl (g.2.2.1, 6, .inr (.inr (.inr (.inr rows))))), (h, .inr (0, [.int (nI rt), .int (nI lf), .ref pa, .ref da, .int (nI T), .int (nI P), .long (lN R0), .long xI, .long xP, .long xW, .long xG])), (pa, .inl (g.2.1, 120, .inl u)), (da, .inl (g.2.1, 121, .inl v))] (fun q w => q = nI 1 ∧ w = [(ua, .inr (1, [.ref ar, .int (nI cnt)])), (ar, .inl (g.2.2.1, 6, .inr (.inr (.inr (.inr rows))))), (h, .inr (0, [.int (nI rt), .int (nI lf), .ref pa, .ref da, .int (nI T), .int (nI P), .long (lN R0), .long xI, .long xP, .long xW, .long xG])), (pa, .inl (g.2.1, 120, .inl u)), (da, .inl (g.2.1, 121, .inl v))]) 13 78 := by
  intro sz A hAe
  refine Met.ofW (cc := cL_adds) (maxL := 6) (ret := some .boolean) (by decide) rfl ?_
  intro p e s m args below meth c s₁ B hml hv
  obtain ⟨rfl, ⟨hsz, hP, hK, hD0⟩, hX⟩ := hv
  have hx := B.exec
  have hb := B.bytes
  have hr := B.returns
  have hts := atoms_spec (ws := wsL_adds) B.pre
  have hown : s.vm.findClass RL = some m.cls := findClass_of_methodNamed B.named
  have hlocks := B.notSynchronized
  obtain ⟨hD, hA, hS⟩ := z_in hsz hAe hD0
  have hl := lv_entry ([.ref ua, .int (nI j), .int c0]) (n := 6) (Nat.le_of_ble_eq_true rfl)
  rw [lg_entry_eq]
  generalize (lg_sl ([.ref ua, .int (nI j), .int c0]) ++ List.replicate (6 - (lg_sl ([.ref ua, .int (nI j), .int c0])).length) Slot.unset).toArray = ls at hl ⊢
  have hl : lv_has ls 6 [(0, .ref ua), (1, .int (nI j)), (2, .int c0)] := hl
  obtain ⟨hT, hPT, hrt, hlf, hp, hRb⟩ := id hZ
  have hR2 := zInv_R hZ
  have hDb := zInv_W hZ rt P (Nat.le_refl P)
  refine lv_aload_n hx hb dL_adds_0 rfl (lv_at hl 0 rfl) ?_
  refine lv_iload_n hx hb dL_adds_1 rfl (lv_at hl 1 rfl) ?_
  refine z_axi (wa := []) (wc := [(ua, .inr (1, [.ref ar, .int (nI cnt)])), (ar, .inl (g.2.2.1, 6, .inr (.inr (.inr (.inr rows))))), (h, .inr (0, [.int (nI rt), .int (nI lf), .ref pa, .ref da, .int (nI T), .int (nI P), .long (lN R0), .long xI, .long xP, .long xW, .long xG])), (pa, .inl (g.2.1, 120, .inl u)), (da, .inl (g.2.1, 121, .inl v))]) (wb := []) (vx_runV (As := [.int (nI j)]) (rest := []) ⟨hx, hb, hml, hown, hts⟩ (p_right l hst g ua ar cnt rows j h pa da rt lf T P R0 py I Pd Wn G xI xP xW xG u v hj hrow hZ hC s.heap.size _ rfl) (cwV 1 hts gL_adds_X1_right rfl rfl rfl (by decide +kernel) ⟨Nat.le_of_ble_eq_true rfl, Nat.le_of_ble_eq_true rfl⟩) (zpreXV (wa := []) (wc := [(ua, .inr (1, [.ref ar, .int (nI cnt)])), (ar, .inl (g.2.2.1, 6, .inr (.inr (.inr (.inr rows))))), (h, .inr (0, [.int (nI rt), .int (nI lf), .ref pa, .ref da, .int (nI T), .int (nI P), .long (lN R0), .long xI, .long xP, .long xW, .long xG])), (pa, .inl (g.2.1, 120, .inl u)), (da, .inl (g.2.1, 121, .inl v))]) (wb := []) (q0 := 0) (ci := 1) (T := TX1) (N := 2) hK hP hD hS hA hX rfl rfl) rfl rfl hl.1 rfl (lv_room (Nat.le_of_ble_eq_true rfl)) dL_adds_2 ⟨Nat.le_of_ble_eq_true rfl, Nat.le_of_ble_eq_true rfl⟩) hP hD hS hA (fun E ce q9 H locs hE hP hD hS hc1 hc2 hc3 => ?_) (fun r_1 w1 H locs hq hP hD hS => ?_)
  · exact hE.elim
  · obtain ⟨rfl, rfl⟩ := hq
    have hP : va_P g.1 vwCl [(ua, .inr (1, [.ref ar, .int (nI cnt)])), (ar, .inl (g.2.2.1, 6, .inr (.inr (.inr (.inr rows))))), (h, .inr (0, [.int (nI rt), .int (nI lf), .ref pa, .ref da, .int (nI T), .int (nI P), .long (lN R0), .long xI, .long xP, .long xW, .long xG])), (pa, .inl (g.2.1, 120, .inl u)), (da, .inl (g.2.1, 121, .inl v))] H := hP
    have hD : va_D A [(ua, .inr (1, [.ref ar, .int (nI cnt)])), (ar, .inl (g.2.2.1, 6, .inr (.inr (.inr (.inr rows))))), (h, .inr (0, [.int (nI rt), .int (nI lf), .ref pa, .ref da, .int (nI T), .int (nI P), .long (lN R0), .long xI, .long xP, .long xW, .long xG])), (pa, .inl (g.2.1, 120, .inl u)), (da, .inl (g.2.1, 121, .inl v))] := hD
    refine lv_aload_n hx hb dL_adds_5 rfl (lv_at hl 0 rfl) ?_
    refine lv_iload_n hx hb dL_adds_6 rfl (lv_at hl 1 rfl) ?_
    refine z_axi (wa := []) (wc := [(ua, .inr (1, [.ref ar, .int (nI cnt)])), (ar, .inl (g.2.2.1, 6, .inr (.inr (.inr (.inr rows))))), (h, .inr (0, [.int (nI rt), .int (nI lf), .ref pa, .ref da, .int (nI T), .int (nI P), .long (lN R0), .long xI, .long xP, .long xW, .long xG])), (pa, .inl (g.2.1, 120, .inl u)), (da, .inl (g.2.1, 121, .inl v))]) (wb := []) (vx_runV (As := [.int (nI j)]) (rest := [.int (nI R0)]) ⟨hx, hb, hml, hown, hts⟩ (p_written l hst g ua ar cnt rows j h pa da rt lf T P R0 py I Pd Wn G xI xP xW xG u v hj hrow hZ hC H.size _ rfl) (cwV 1 hts gL_adds_X1_written rfl rfl rfl (by decide +kernel) ⟨Nat.le_of_ble_eq_true rfl, Nat.le_of_ble_eq_true rfl⟩) (zpreXV (wa := []) (wc := [(ua, .inr (1, [.ref ar, .int (nI cnt)])), (ar, .inl (g.2.2.1, 6, .inr (.inr (.inr (.inr rows))))), (h, .inr (0, [.int (nI rt), .int (nI lf), .ref pa, .ref da, .int (nI T), .int (nI P), .long (lN R0), .long xI, .long xP, .long xW, .long xG])), (pa, .inl (g.2.1, 120, .inl u)), (da, .inl (g.2.1, 121, .inl v))]) (wb := []) (q0 := 0) (ci := 1) (T := TX1) (N := 2) hK hP hD hS hA hX rfl rfl) rfl rfl hl.1 rfl (lv_room (Nat.le_of_ble_eq_true rfl)) dL_adds_7 ⟨Nat.le_of_ble_eq_true rfl, Nat.le_of_ble_eq_true rfl⟩) hP hD hS hA (fun E ce q9 H locs hE hP hD hS hc1 hc2 hc3 => ?_) (fun r_2 w1 H locs hq hP hD hS => ?_)
    · exact hE.elim
    · obtain ⟨e_r, rfl⟩ := hq
      have hP : va_P g.1 vwCl [(ua, .inr (1, [.ref ar, .int (nI cnt)])), (ar, .inl (g.2.2.1, 6, .inr (.inr (.inr (.inr rows))))), (h, .inr (0, [.int (nI rt), .int (nI lf), .ref pa, .ref da, .int (nI T), .int (nI P), .long (lN R0), .long xI, .long xP, .long xW, .long xG])), (pa, .inl (g.2.1, 120, .inl u)), (da, .inl (g.2.1, 121, .inl v))] H := hP
      have hD : va_D A [(ua, .inr (1, [.ref ar, .int (nI cnt)])), (ar, .inl (g.2.2.1, 6, .inr (.inr (.inr (.inr rows))))), (h, .inr (0, [.int (nI rt), .int (nI lf), .ref pa, .ref da, .int (nI T), .int (nI P), .long (lN R0), .long xI, .long xP, .long xW, .long xG])), (pa, .inl (g.2.1, 120, .inl u)), (da, .inl (g.2.1, 121, .inl v))] := hD
      refine zi (y := Wn) (e_r) ?_
      refine lv_iadd hx hb dL_adds_10 ?_
      refine lv_aload_n hx hb dL_adds_11 rfl (lv_at hl 0 rfl) ?_
      refine lv_iload_n hx hb dL_adds_12 rfl (lv_at hl 1 rfl) ?_
      refine z_axi (wa := []) (wc := [(ua, .inr (1, [.ref ar, .int (nI cnt)])), (ar, .inl (g.2.2.1, 6, .inr (.inr (.inr (.inr rows))))), (h, .inr (0, [.int (nI rt), .int (nI lf), .ref pa, .ref da, .int (nI T), .int (nI P), .long (lN R0), .long xI, .long xP, .long xW, .long xG])), (pa, .inl (g.2.1, 120, .inl u)), (da, .inl (g.2.1, 121, .inl v))]) (wb := []) (vx_runV (As := [.int (nI j)]) (rest := [.int ((nI R0) + Wn)]) ⟨hx, hb, hml, hown, hts⟩ (p_interest l hst g ua ar cnt rows j h pa da rt lf T P R0 py I Pd Wn G xI xP xW xG u v hj hrow hZ hC H.size _ rfl) (cwV 1 hts gL_adds_X1_interest rfl rfl rfl (by decide +kernel) ⟨Nat.le_of_ble_eq_true rfl, Nat.le_of_ble_eq_true rfl⟩) (zpreXV (wa := []) (wc := [(ua, .inr (1, [.ref ar, .int (nI cnt)])), (ar, .inl (g.2.2.1, 6, .inr (.inr (.inr (.inr rows))))), (h, .inr (0, [.int (nI rt), .int (nI lf), .ref pa, .ref da, .int (nI T), .int (nI P), .long (lN R0), .long xI, .long xP, .long xW, .long xG])), (pa, .inl (g.2.1, 120, .inl u)), (da, .inl (g.2.1, 121, .inl v))]) (wb := []) (q0 := 0) (ci := 1) (T := TX1) (N := 2) hK hP hD hS hA hX rfl rfl) rfl rfl hl.1 rfl (lv_room (Nat.le_of_ble_eq_true rfl)) dL_adds_13 ⟨Nat.le_of_ble_eq_true rfl, Nat.le_of_ble_eq_true rfl⟩) hP hD hS hA (fun E ce q9 H locs hE hP hD hS hc1 hc2 hc3 => ?_) (fun r_3 w1 H locs hq hP hD hS => ?_)
      · exact hE.elim
      · obtain ⟨e_r, rfl⟩ := hq
        have hP : va_P g.1 vwCl [(ua, .inr (1, [.ref ar, .int (nI cnt)])), (ar, .inl (g.2.2.1, 6, .inr (.inr (.inr (.inr rows))))), (h, .inr (0, [.int (nI rt), .int (nI lf), .ref pa, .ref da, .int (nI T), .int (nI P), .long (lN R0), .long xI, .long xP, .long xW, .long xG])), (pa, .inl (g.2.1, 120, .inl u)), (da, .inl (g.2.1, 121, .inl v))] H := hP
        have hD : va_D A [(ua, .inr (1, [.ref ar, .int (nI cnt)])), (ar, .inl (g.2.2.1, 6, .inr (.inr (.inr (.inr rows))))), (h, .inr (0, [.int (nI rt), .int (nI lf), .ref pa, .ref da, .int (nI T), .int (nI P), .long (lN R0), .long xI, .long xP, .long xW, .long xG])), (pa, .inl (g.2.1, 120, .inl u)), (da, .inl (g.2.1, 121, .inl v))] := hD
        refine zi (y := I) (e_r) ?_
        refine lv_iadd hx hb dL_adds_16 ?_
        refine lv_istore_n (lv' := [(3, .int (((nI R0) + Wn) + I)), (0, .ref ua), (1, .int (nI j)), (2, .int c0)]) hx hb dL_adds_17 rfl hl (by decide) rfl (fun ls hl => ?_)
        refine lv_aload_n hx hb dL_adds_18 rfl (lv_at hl 1 rfl) ?_
        refine lv_iload_n hx hb dL_adds_19 rfl (lv_at hl 2 rfl) ?_
        refine z_axi (wa := []) (wc := [(ua, .inr (1, [.ref ar, .int (nI cnt)])), (ar, .inl (g.2.2.1, 6, .inr (.inr (.inr (.inr rows))))), (h, .inr (0, [.int (nI rt), .int (nI lf), .ref pa, .ref da, .int (nI T), .int (nI P), .long (lN R0), .long xI, .long xP, .long xW, .long xG])), (pa, .inl (g.2.1, 120, .inl u)), (da, .inl (g.2.1, 121, .inl v))]) (wb := []) (vx_runV (As := [.int (nI j)]) (rest := []) ⟨hx, hb, hml, hown, hts⟩ (p_debt l hst g ua ar cnt rows j h pa da rt lf T P R0 py I Pd Wn G xI xP xW xG u v hj hrow hZ hC H.size _ rfl) (cwV 1 hts gL_adds_X1_debt rfl rfl rfl (by decide +kernel) ⟨Nat.le_of_ble_eq_true rfl, Nat.le_of_ble_eq_true rfl⟩) (zpreXV (wa := []) (wc := [(ua, .inr (1, [.ref ar, .int (nI cnt)])), (ar, .inl (g.2.2.1, 6, .inr (.inr (.inr (.inr rows))))), (h, .inr (0, [.int (nI rt), .int (nI lf), .ref pa, .ref da, .int (nI T), .int (nI P), .long (lN R0), .long xI, .long xP, .long xW, .long xG])), (pa, .inl (g.2.1, 120, .inl u)), (da, .inl (g.2.1, 121, .inl v))]) (wb := []) (q0 := 0) (ci := 1) (T := TX1) (N := 2) hK hP hD hS hA hX rfl rfl) rfl rfl hl.1 rfl (lv_room (Nat.le_of_ble_eq_true rfl)) dL_adds_20 ⟨Nat.le_of_ble_eq_true rfl, Nat.le_of_ble_eq_true rfl⟩) hP hD hS hA (fun E ce q9 H locs hE hP hD hS hc1 hc2 hc3 => ?_) (fun r_4 w1 H locs hq hP hD hS => ?_)
        · exact hE.elim
        · obtain ⟨rfl, rfl⟩ := hq
          have hP : va_P g.1 vwCl [(ua, .inr (1, [.ref ar, .int (nI cnt)])), (ar, .inl (g.2.2.1, 6, .inr (.inr (.inr (.inr rows))))), (h, .inr (0, [.int (nI rt), .int (nI lf), .ref pa, .ref da, .int (nI T), .int (nI P), .long (lN R0), .long xI, .long xP, .long xW, .long xG])), (pa, .inl (g.2.1, 120, .inl u)), (da, .inl (g.2.1, 121, .inl v))] H := hP
          have hD : va_D A [(ua, .inr (1, [.ref ar, .int (nI cnt)])), (ar, .inl (g.2.2.1, 6, .inr (.inr (.inr (.inr rows))))), (h, .inr (0, [.int (nI rt), .int (nI lf), .ref pa, .ref da, .int (nI T), .int (nI P), .long (lN R0), .long xI, .long xP, .long xW, .long xG])), (pa, .inl (g.2.1, 120, .inl u)), (da, .inl (g.2.1, 121, .inl v))] := hD
          refine lv_iload_n hx hb dL_adds_23 rfl (lv_at hl 3 rfl) ?_
          refine lv_iadd hx hb dL_adds_24 ?_
          refine lv_aload_n hx hb dL_adds_25 rfl (lv_at hl 1 rfl) ?_
          refine lv_iload_n hx hb dL_adds_26 rfl (lv_at hl 2 rfl) ?_
          refine z_axi (wa := []) (wc := [(ua, .inr (1, [.ref ar, .int (nI cnt)])), (ar, .inl (g.2.2.1, 6, .inr (.inr (.inr (.inr rows))))), (h, .inr (0, [.int (nI rt), .int (nI lf), .ref pa, .ref da, .int (nI T), .int (nI P), .long (lN R0), .long xI, .long xP, .long xW, .long xG])), (pa, .inl (g.2.1, 120, .inl u)), (da, .inl (g.2.1, 121, .inl v))]) (wb := []) (vx_runV (As := [.int (nI j)]) (rest := [.int ((nI (zWr rt py T (T - P))) + c0)]) ⟨hx, hb, hml, hown, hts⟩ (p_paid l hst g ua ar cnt rows j h pa da rt lf T P R0 py I Pd Wn G xI xP xW xG u v hj hrow hZ hC H.size _ rfl) (cwV 1 hts gL_adds_X1_paid rfl rfl rfl (by decide +kernel) ⟨Nat.le_of_ble_eq_true rfl, Nat.le_of_ble_eq_true rfl⟩) (zpreXV (wa := []) (wc := [(ua, .inr (1, [.ref ar, .int (nI cnt)])), (ar, .inl (g.2.2.1, 6, .inr (.inr (.inr (.inr rows))))), (h, .inr (0, [.int (nI rt), .int (nI lf), .ref pa, .ref da, .int (nI T), .int (nI P), .long (lN R0), .long xI, .long xP, .long xW, .long xG])), (pa, .inl (g.2.1, 120, .inl u)), (da, .inl (g.2.1, 121, .inl v))]) (wb := []) (q0 := 0) (ci := 1) (T := TX1) (N := 2) hK hP hD hS hA hX rfl rfl) rfl rfl hl.1 rfl (lv_room (Nat.le_of_ble_eq_true rfl)) dL_adds_27 ⟨Nat.le_of_ble_eq_true rfl, Nat.le_of_ble_eq_true rfl⟩) hP hD hS hA (fun E ce q9 H locs hE hP hD hS hc1 hc2 hc3 => ?_) (fun r_5 w1 H locs hq hP hD hS => ?_)
          · exact hE.elim
          · obtain ⟨e_r, rfl⟩ := hq
            have hP : va_P g.1 vwCl [(ua, .inr (1, [.ref ar, .int (nI cnt)])), (ar, .inl (g.2.2.1, 6, .inr (.inr (.inr (.inr rows))))), (h, .inr (0, [.int (nI rt), .int (nI lf), .ref pa, .ref da, .int (nI T), .int (nI P), .long (lN R0), .long xI, .long xP, .long xW, .long xG])), (pa, .inl (g.2.1, 120, .inl u)), (da, .inl (g.2.1, 121, .inl v))] H := hP
            have hD : va_D A [(ua, .inr (1, [.ref ar, .int (nI cnt)])), (ar, .inl (g.2.2.1, 6, .inr (.inr (.inr (.inr rows))))), (h, .inr (0, [.int (nI rt), .int (nI lf), .ref pa, .ref da, .int (nI T), .int (nI P), .long (lN R0), .long xI, .long xP, .long xW, .long xG])), (pa, .inl (g.2.1, 120, .inl u)), (da, .inl (g.2.1, 121, .inl v))] := hD
            refine zi (y := Pd) (e_r) ?_
            refine lv_iadd hx hb dL_adds_30 ?_
            refine lv_aload_n hx hb dL_adds_31 rfl (lv_at hl 1 rfl) ?_
            refine lv_iload_n hx hb dL_adds_32 rfl (lv_at hl 2 rfl) ?_
            refine z_axi (wa := []) (wc := [(ua, .inr (1, [.ref ar, .int (nI cnt)])), (ar, .inl (g.2.2.1, 6, .inr (.inr (.inr (.inr rows))))), (h, .inr (0, [.int (nI rt), .int (nI lf), .ref pa, .ref da, .int (nI T), .int (nI P), .long (lN R0), .long xI, .long xP, .long xW, .long xG])), (pa, .inl (g.2.1, 120, .inl u)), (da, .inl (g.2.1, 121, .inl v))]) (wb := []) (vx_runV (As := [.int (nI j)]) (rest := [.int (((nI (zWr rt py T (T - P))) + c0) + Pd)]) ⟨hx, hb, hml, hown, hts⟩ (p_gains l hst g ua ar cnt rows j h pa da rt lf T P R0 py I Pd Wn G xI xP xW xG u v hj hrow hZ hC H.size _ rfl) (cwV 1 hts gL_adds_X1_gains rfl rfl rfl (by decide +kernel) ⟨Nat.le_of_ble_eq_true rfl, Nat.le_of_ble_eq_true rfl⟩) (zpreXV (wa := []) (wc := [(ua, .inr (1, [.ref ar, .int (nI cnt)])), (ar, .inl (g.2.2.1, 6, .inr (.inr (.inr (.inr rows))))), (h, .inr (0, [.int (nI rt), .int (nI lf), .ref pa, .ref da, .int (nI T), .int (nI P), .long (lN R0), .long xI, .long xP, .long xW, .long xG])), (pa, .inl (g.2.1, 120, .inl u)), (da, .inl (g.2.1, 121, .inl v))]) (wb := []) (q0 := 0) (ci := 1) (T := TX1) (N := 2) hK hP hD hS hA hX rfl rfl) rfl rfl hl.1 rfl (lv_room (Nat.le_of_ble_eq_true rfl)) dL_adds_33 ⟨Nat.le_of_ble_eq_true rfl, Nat.le_of_ble_eq_true rfl⟩) hP hD hS hA (fun E ce q9 H locs hE hP hD hS hc1 hc2 hc3 => ?_) (fun r_6 w1 H locs hq hP hD hS => ?_)
            · exact hE.elim
            · obtain ⟨e_r, rfl⟩ := hq
              have hP : va_P g.1 vwCl [(ua, .inr (1, [.ref ar, .int (nI cnt)])), (ar, .inl (g.2.2.1, 6, .inr (.inr (.inr (.inr rows))))), (h, .inr (0, [.int (nI rt), .int (nI lf), .ref pa, .ref da, .int (nI T), .int (nI P), .long (lN R0), .long xI, .long xP, .long xW, .long xG])), (pa, .inl (g.2.1, 120, .inl u)), (da, .inl (g.2.1, 121, .inl v))] H := hP
              have hD : va_D A [(ua, .inr (1, [.ref ar, .int (nI cnt)])), (ar, .inl (g.2.2.1, 6, .inr (.inr (.inr (.inr rows))))), (h, .inr (0, [.int (nI rt), .int (nI lf), .ref pa, .ref da, .int (nI T), .int (nI P), .long (lN R0), .long xI, .long xP, .long xW, .long xG])), (pa, .inl (g.2.1, 120, .inl u)), (da, .inl (g.2.1, 121, .inl v))] := hD
              refine zi (y := G) (e_r) ?_
              refine lv_iadd hx hb dL_adds_36 ?_
              refine lv_istore (lv' := [(4, .int ((((nI (zWr rt py T (T - P))) + c0) + Pd) + G)), (3, .int (((nI R0) + Wn) + I)), (0, .ref ua), (1, .int (nI j)), (2, .int c0)]) hx hb dL_adds_37 hl (by decide) rfl (fun ls hl => ?_)
              refine lv_aload_n hx hb dL_adds_39 rfl (lv_at hl 2 rfl) ?_
              refine lv_iload_n hx hb dL_adds_40 rfl (lv_at hl 3 rfl) ?_
              refine z_axi (wa := []) (wc := [(ua, .inr (1, [.ref ar, .int (nI cnt)])), (ar, .inl (g.2.2.1, 6, .inr (.inr (.inr (.inr rows))))), (h, .inr (0, [.int (nI rt), .int (nI lf), .ref pa, .ref da, .int (nI T), .int (nI P), .long (lN R0), .long xI, .long xP, .long xW, .long xG])), (pa, .inl (g.2.1, 120, .inl u)), (da, .inl (g.2.1, 121, .inl v))]) (wb := []) (vx_runV (As := [.int (nI j)]) (rest := []) ⟨hx, hb, hml, hown, hts⟩ (p_toCome l hst g ua ar cnt rows j h pa da rt lf T P R0 py I Pd Wn G xI xP xW xG u v hj hrow hZ hC H.size _ rfl) (cwV 1 hts gL_adds_X1_toCome rfl rfl rfl (by decide +kernel) ⟨Nat.le_of_ble_eq_true rfl, Nat.le_of_ble_eq_true rfl⟩) (zpreXV (wa := []) (wc := [(ua, .inr (1, [.ref ar, .int (nI cnt)])), (ar, .inl (g.2.2.1, 6, .inr (.inr (.inr (.inr rows))))), (h, .inr (0, [.int (nI rt), .int (nI lf), .ref pa, .ref da, .int (nI T), .int (nI P), .long (lN R0), .long xI, .long xP, .long xW, .long xG])), (pa, .inl (g.2.1, 120, .inl u)), (da, .inl (g.2.1, 121, .inl v))]) (wb := []) (q0 := 0) (ci := 1) (T := TX1) (N := 2) hK hP hD hS hA hX rfl rfl) rfl rfl hl.1 rfl (lv_room (Nat.le_of_ble_eq_true rfl)) dL_adds_41 ⟨Nat.le_of_ble_eq_true rfl, Nat.le_of_ble_eq_true rfl⟩) hP hD hS hA (fun E ce q9 H locs hE hP hD hS hc1 hc2 hc3 => ?_) (fun r_7 w1 H locs hq hP hD hS => ?_)
              · exact hE.elim
              · obtain ⟨rfl, rfl⟩ := hq
                have hP : va_P g.1 vwCl [(ua, .inr (1, [.ref ar, .int (nI cnt)])), (ar, .inl (g.2.2.1, 6, .inr (.inr (.inr (.inr rows))))), (h, .inr (0, [.int (nI rt), .int (nI lf), .ref pa, .ref da, .int (nI T), .int (nI P), .long (lN R0), .long xI, .long xP, .long xW, .long xG])), (pa, .inl (g.2.1, 120, .inl u)), (da, .inl (g.2.1, 121, .inl v))] H := hP
                have hD : va_D A [(ua, .inr (1, [.ref ar, .int (nI cnt)])), (ar, .inl (g.2.2.1, 6, .inr (.inr (.inr (.inr rows))))), (h, .inr (0, [.int (nI rt), .int (nI lf), .ref pa, .ref da, .int (nI T), .int (nI P), .long (lN R0), .long xI, .long xP, .long xW, .long xG])), (pa, .inl (g.2.1, 120, .inl u)), (da, .inl (g.2.1, 121, .inl v))] := hD
                refine z_if_ne (tgt := 51) hx hb dL_adds_44 (by decide) (by omega) (fun hc => ?_) (fun hc => ?_)
                · skip
                  refine lv_iconst (v := nI 0) hx hb dL_adds_51 (by decide) ?_
                  refine lv_istore (lv' := [(5, .int (nI 0)), (4, .int ((((nI (zWr rt py T (T - P))) + c0) + Pd) + G)), (3, .int (((nI R0) + Wn) + I)), (0, .ref ua), (1, .int (nI j)), (2, .int c0)]) hx hb dL_adds_52 hl (by decide) rfl (fun ls hl => ?_)
                  refine lv_iload_n hx hb dL_adds_54 rfl (lv_at hl 2 rfl) ?_
                  refine lv_iload hx hb dL_adds_55 (lv_at hl 1 rfl) ?_
                  refine lv_icmp_ne (tgt := 114) hx hb dL_adds_57 (by decide) (fun he => ?_) (fun he => ?_)
                  · exact absurd hsum he
                  · skip
                    refine lv_aload_n hx hb dL_adds_60 rfl (lv_at hl 3 rfl) ?_
                    refine lv_iload_n hx hb dL_adds_61 rfl (lv_at hl 4 rfl) ?_
                    refine z_axi (wa := []) (wc := [(ua, .inr (1, [.ref ar, .int (nI cnt)])), (ar, .inl (g.2.2.1, 6, .inr (.inr (.inr (.inr rows))))), (h, .inr (0, [.int (nI rt), .int (nI lf), .ref pa, .ref da, .int (nI T), .int (nI P), .long (lN R0), .long xI, .long xP, .long xW, .long xG])), (pa, .inl (g.2.1, 120, .inl u)), (da, .inl (g.2.1, 121, .inl v))]) (wb := []) (vx_runV (As := [.int (nI j)]) (rest := []) ⟨hx, hb, hml, hown, hts⟩ (p_debt l hst g ua ar cnt rows j h pa da rt lf T P R0 py I Pd Wn G xI xP xW xG u v hj hrow hZ hC H.size _ rfl) (cwV 1 hts gL_adds_X1_debt rfl rfl rfl (by decide +kernel) ⟨Nat.le_of_ble_eq_true rfl, Nat.le_of_ble_eq_true rfl⟩) (zpreXV (wa := []) (wc := [(ua, .inr (1, [.ref ar, .int (nI cnt)])), (ar, .inl (g.2.2.1, 6, .inr (.inr (.inr (.inr rows))))), (h, .inr (0, [.int (nI rt), .int (nI lf), .ref pa, .ref da, .int (nI T), .int (nI P), .long (lN R0), .long xI, .long xP, .long xW, .long xG])), (pa, .inl (g.2.1, 120, .inl u)), (da, .inl (g.2.1, 121, .inl v))]) (wb := []) (q0 := 0) (ci := 1) (T := TX1) (N := 2) hK hP hD hS hA hX rfl rfl) rfl rfl hl.1 rfl (lv_room (Nat.le_of_ble_eq_true rfl)) dL_adds_62 ⟨Nat.le_of_ble_eq_true rfl, Nat.le_of_ble_eq_true rfl⟩) hP hD hS hA (fun E ce q9 H locs hE hP hD hS hc1 hc2 hc3 => ?_) (fun r_8 w1 H locs hq hP hD hS => ?_)
                    · exact hE.elim
                    · obtain ⟨rfl, rfl⟩ := hq
                      have hP : va_P g.1 vwCl [(ua, .inr (1, [.ref ar, .int (nI cnt)])), (ar, .inl (g.2.2.1, 6, .inr (.inr (.inr (.inr rows))))), (h, .inr (0, [.int (nI rt), .int (nI lf), .ref pa, .ref da, .int (nI T), .int (nI P), .long (lN R0), .long xI, .long xP, .long xW, .long xG])), (pa, .inl (g.2.1, 120, .inl u)), (da, .inl (g.2.1, 121, .inl v))] H := hP
                      have hD : va_D A [(ua, .inr (1, [.ref ar, .int (nI cnt)])), (ar, .inl (g.2.2.1, 6, .inr (.inr (.inr (.inr rows))))), (h, .inr (0, [.int (nI rt), .int (nI lf), .ref pa, .ref da, .int (nI T), .int (nI P), .long (lN R0), .long xI, .long xP, .long xW, .long xG])), (pa, .inl (g.2.1, 120, .inl u)), (da, .inl (g.2.1, 121, .inl v))] := hD
                      refine lv_aload_n hx hb dL_adds_65 rfl (lv_at hl 3 rfl) ?_
                      refine lv_iload_n hx hb dL_adds_66 rfl (lv_at hl 4 rfl) ?_
                      refine z_axi (wa := []) (wc := [(ua, .inr (1, [.ref ar, .int (nI cnt)])), (ar, .inl (g.2.2.1, 6, .inr (.inr (.inr (.inr rows))))), (h, .inr (0, [.int (nI rt), .int (nI lf), .ref pa, .ref da, .int (nI T), .int (nI P), .long (lN R0), .long xI, .long xP, .long xW, .long xG])), (pa, .inl (g.2.1, 120, .inl u)), (da, .inl (g.2.1, 121, .inl v))]) (wb := []) (vx_runV (As := [.int (nI j)]) (rest := [.int (nI (zWr rt py T (T - P)))]) ⟨hx, hb, hml, hown, hts⟩ (p_debtByWorth l hst g ua ar cnt rows j h pa da rt lf T P R0 py I Pd Wn G xI xP xW xG u v hj hrow hZ hC H.size _ rfl) (cwV 1 hts gL_adds_X1_debtByWorth rfl rfl rfl (by decide +kernel) ⟨Nat.le_of_ble_eq_true rfl, Nat.le_of_ble_eq_true rfl⟩) (zpreXV (wa := []) (wc := [(ua, .inr (1, [.ref ar, .int (nI cnt)])), (ar, .inl (g.2.2.1, 6, .inr (.inr (.inr (.inr rows))))), (h, .inr (0, [.int (nI rt), .int (nI lf), .ref pa, .ref da, .int (nI T), .int (nI P), .long (lN R0), .long xI, .long xP, .long xW, .long xG])), (pa, .inl (g.2.1, 120, .inl u)), (da, .inl (g.2.1, 121, .inl v))]) (wb := []) (q0 := 0) (ci := 1) (T := TX1) (N := 2) hK hP hD hS hA hX rfl rfl) rfl rfl hl.1 rfl (lv_room (Nat.le_of_ble_eq_true rfl)) dL_adds_67 ⟨Nat.le_of_ble_eq_true rfl, Nat.le_of_ble_eq_true rfl⟩) hP hD hS hA (fun E ce q9 H locs hE hP hD hS hc1 hc2 hc3 => ?_) (fun r_9 w1 H locs hq hP hD hS => ?_)
                      · exact hE.elim
                      · obtain ⟨rfl, rfl⟩ := hq
                        have hP : va_P g.1 vwCl [(ua, .inr (1, [.ref ar, .int (nI cnt)])), (ar, .inl (g.2.2.1, 6, .inr (.inr (.inr (.inr rows))))), (h, .inr (0, [.int (nI rt), .int (nI lf), .ref pa, .ref da, .int (nI T), .int (nI P), .long (lN R0), .long xI, .long xP, .long xW, .long xG])), (pa, .inl (g.2.1, 120, .inl u)), (da, .inl (g.2.1, 121, .inl v))] H := hP
                        have hD : va_D A [(ua, .inr (1, [.ref ar, .int (nI cnt)])), (ar, .inl (g.2.2.1, 6, .inr (.inr (.inr (.inr rows))))), (h, .inr (0, [.int (nI rt), .int (nI lf), .ref pa, .ref da, .int (nI T), .int (nI P), .long (lN R0), .long xI, .long xP, .long xW, .long xG])), (pa, .inl (g.2.1, 120, .inl u)), (da, .inl (g.2.1, 121, .inl v))] := hD
                        refine z_icmp_ne (tgt := 114) hx hb dL_adds_70 (by decide) (by omega) (by omega) (fun hd => ?_) (fun hd => ?_)
                        · exact absurd rfl hd
                        · skip
                          refine lv_aload_n hx hb dL_adds_73 rfl (lv_at hl 3 rfl) ?_
                          refine lv_iload_n hx hb dL_adds_74 rfl (lv_at hl 4 rfl) ?_
                          refine z_axi (wa := []) (wc := [(ua, .inr (1, [.ref ar, .int (nI cnt)])), (ar, .inl (g.2.2.1, 6, .inr (.inr (.inr (.inr rows))))), (h, .inr (0, [.int (nI rt), .int (nI lf), .ref pa, .ref da, .int (nI T), .int (nI P), .long (lN R0), .long xI, .long xP, .long xW, .long xG])), (pa, .inl (g.2.1, 120, .inl u)), (da, .inl (g.2.1, 121, .inl v))]) (wb := []) (vx_runV (As := [.int (nI j)]) (rest := []) ⟨hx, hb, hml, hown, hts⟩ (p_right l hst g ua ar cnt rows j h pa da rt lf T P R0 py I Pd Wn G xI xP xW xG u v hj hrow hZ hC H.size _ rfl) (cwV 1 hts gL_adds_X1_right rfl rfl rfl (by decide +kernel) ⟨Nat.le_of_ble_eq_true rfl, Nat.le_of_ble_eq_true rfl⟩) (zpreXV (wa := []) (wc := [(ua, .inr (1, [.ref ar, .int (nI cnt)])), (ar, .inl (g.2.2.1, 6, .inr (.inr (.inr (.inr rows))))), (h, .inr (0, [.int (nI rt), .int (nI lf), .ref pa, .ref da, .int (nI T), .int (nI P), .long (lN R0), .long xI, .long xP, .long xW, .long xG])), (pa, .inl (g.2.1, 120, .inl u)), (da, .inl (g.2.1, 121, .inl v))]) (wb := []) (q0 := 0) (ci := 1) (T := TX1) (N := 2) hK hP hD hS hA hX rfl rfl) rfl rfl hl.1 rfl (lv_room (Nat.le_of_ble_eq_true rfl)) dL_adds_75 ⟨Nat.le_of_ble_eq_true rfl, Nat.le_of_ble_eq_true rfl⟩) hP hD hS hA (fun E ce q9 H locs hE hP hD hS hc1 hc2 hc3 => ?_) (fun r_10 w1 H locs hq hP hD hS => ?_)
                          · exact hE.elim
                          · obtain ⟨rfl, rfl⟩ := hq
                            have hP : va_P g.1 vwCl [(ua, .inr (1, [.ref ar, .int (nI cnt)])), (ar, .inl (g.2.2.1, 6, .inr (.inr (.inr (.inr rows))))), (h, .inr (0, [.int (nI rt), .int (nI lf), .ref pa, .ref da, .int (nI T), .int (nI P), .long (lN R0), .long xI, .long xP, .long xW, .long xG])), (pa, .inl (g.2.1, 120, .inl u)), (da, .inl (g.2.1, 121, .inl v))] H := hP
                            have hD : va_D A [(ua, .inr (1, [.ref ar, .int (nI cnt)])), (ar, .inl (g.2.2.1, 6, .inr (.inr (.inr (.inr rows))))), (h, .inr (0, [.int (nI rt), .int (nI lf), .ref pa, .ref da, .int (nI T), .int (nI P), .long (lN R0), .long xI, .long xP, .long xW, .long xG])), (pa, .inl (g.2.1, 120, .inl u)), (da, .inl (g.2.1, 121, .inl v))] := hD
                            refine z_if_lt (tgt := 114) hx hb dL_adds_78 (by decide) (by omega) (fun hr0 => ?_) (fun hr0 => ?_)
                            · exact hr0.elim
                            · skip
                              refine lv_aload_n hx hb dL_adds_81 rfl (lv_at hl 3 rfl) ?_
                              refine lv_iload_n hx hb dL_adds_82 rfl (lv_at hl 4 rfl) ?_
                              refine z_axi (wa := []) (wc := [(ua, .inr (1, [.ref ar, .int (nI cnt)])), (ar, .inl (g.2.2.1, 6, .inr (.inr (.inr (.inr rows))))), (h, .inr (0, [.int (nI rt), .int (nI lf), .ref pa, .ref da, .int (nI T), .int (nI P), .long (lN R0), .long xI, .long xP, .long xW, .long xG])), (pa, .inl (g.2.1, 120, .inl u)), (da, .inl (g.2.1, 121, .inl v))]) (wb := []) (vx_runV (As := [.int (nI j)]) (rest := []) ⟨hx, hb, hml, hown, hts⟩ (p_interest l hst g ua ar cnt rows j h pa da rt lf T P R0 py I Pd Wn G xI xP xW xG u v hj hrow hZ hC H.size _ rfl) (cwV 1 hts gL_adds_X1_interest rfl rfl rfl (by decide +kernel) ⟨Nat.le_of_ble_eq_true rfl, Nat.le_of_ble_eq_true rfl⟩) (zpreXV (wa := []) (wc := [(ua, .inr (1, [.ref ar, .int (nI cnt)])), (ar, .inl (g.2.2.1, 6, .inr (.inr (.inr (.inr rows))))), (h, .inr (0, [.int (nI rt), .int (nI lf), .ref pa, .ref da, .int (nI T), .int (nI P), .long (lN R0), .long xI, .long xP, .long xW, .long xG])), (pa, .inl (g.2.1, 120, .inl u)), (da, .inl (g.2.1, 121, .inl v))]) (wb := []) (q0 := 0) (ci := 1) (T := TX1) (N := 2) hK hP hD hS hA hX rfl rfl) rfl rfl hl.1 rfl (lv_room (Nat.le_of_ble_eq_true rfl)) dL_adds_83 ⟨Nat.le_of_ble_eq_true rfl, Nat.le_of_ble_eq_true rfl⟩) hP hD hS hA (fun E ce q9 H locs hE hP hD hS hc1 hc2 hc3 => ?_) (fun r_11 w1 H locs hq hP hD hS => ?_)
                              · exact hE.elim
                              · obtain ⟨e_r, rfl⟩ := hq
                                have hP : va_P g.1 vwCl [(ua, .inr (1, [.ref ar, .int (nI cnt)])), (ar, .inl (g.2.2.1, 6, .inr (.inr (.inr (.inr rows))))), (h, .inr (0, [.int (nI rt), .int (nI lf), .ref pa, .ref da, .int (nI T), .int (nI P), .long (lN R0), .long xI, .long xP, .long xW, .long xG])), (pa, .inl (g.2.1, 120, .inl u)), (da, .inl (g.2.1, 121, .inl v))] H := hP
                                have hD : va_D A [(ua, .inr (1, [.ref ar, .int (nI cnt)])), (ar, .inl (g.2.2.1, 6, .inr (.inr (.inr (.inr rows))))), (h, .inr (0, [.int (nI rt), .int (nI lf), .ref pa, .ref da, .int (nI T), .int (nI P), .long (lN R0), .long xI, .long xP, .long xW, .long xG])), (pa, .inl (g.2.1, 120, .inl u)), (da, .inl (g.2.1, 121, .inl v))] := hD
                                refine zi (y := I) (e_r) ?_
                                refine zi (y := nI ii) (hint) ?_
                                refine z_if_lt (tgt := 114) hx hb dL_adds_86 (by decide) (by omega) (fun hi0 => ?_) (fun hi0 => ?_)
                                · exact hi0.elim
                                · skip
                                  refine lv_iload hx hb dL_adds_89 (lv_at hl 0 rfl) ?_
                                  refine z_if_eq (tgt := 110) hx hb dL_adds_91 (by decide) (by decide) (fun _ => ?_) (fun h => absurd rfl h)
                                  refine lv_iconst (v := nI 1) hx hb dL_adds_110 (by decide) ?_
                                  refine lv_goto (tgt := 115) hx hb dL_adds_111 (by decide) ?_
                                  refine W.widen (k := 13) (n := 78) (by omega) (by omega) ?_
                                  exact z_zret hx hb hr (by decide) hP hK hD hS dL_adds_115 hlocks (⟨rfl, rfl⟩)
                · skip
                  refine lv_iconst (v := nI 1) hx hb dL_adds_47 (by decide) ?_
                  refine lv_goto (tgt := 52) hx hb dL_adds_48 (by decide) ?_
                  refine lv_istore (lv' := [(5, .int (nI 1)), (4, .int ((((nI (zWr rt py T (T - P))) + c0) + Pd) + G)), (3, .int (((nI R0) + Wn) + I)), (0, .ref ua), (1, .int (nI j)), (2, .int c0)]) hx hb dL_adds_52 hl (by decide) rfl (fun ls hl => ?_)
                  refine lv_iload_n hx hb dL_adds_54 rfl (lv_at hl 2 rfl) ?_
                  refine lv_iload hx hb dL_adds_55 (lv_at hl 1 rfl) ?_
                  refine lv_icmp_ne (tgt := 114) hx hb dL_adds_57 (by decide) (fun he => ?_) (fun he => ?_)
                  · exact absurd hsum he
                  · skip
                    refine lv_aload_n hx hb dL_adds_60 rfl (lv_at hl 3 rfl) ?_
                    refine lv_iload_n hx hb dL_adds_61 rfl (lv_at hl 4 rfl) ?_
                    refine z_axi (wa := []) (wc := [(ua, .inr (1, [.ref ar, .int (nI cnt)])), (ar, .inl (g.2.2.1, 6, .inr (.inr (.inr (.inr rows))))), (h, .inr (0, [.int (nI rt), .int (nI lf), .ref pa, .ref da, .int (nI T), .int (nI P), .long (lN R0), .long xI, .long xP, .long xW, .long xG])), (pa, .inl (g.2.1, 120, .inl u)), (da, .inl (g.2.1, 121, .inl v))]) (wb := []) (vx_runV (As := [.int (nI j)]) (rest := []) ⟨hx, hb, hml, hown, hts⟩ (p_debt l hst g ua ar cnt rows j h pa da rt lf T P R0 py I Pd Wn G xI xP xW xG u v hj hrow hZ hC H.size _ rfl) (cwV 1 hts gL_adds_X1_debt rfl rfl rfl (by decide +kernel) ⟨Nat.le_of_ble_eq_true rfl, Nat.le_of_ble_eq_true rfl⟩) (zpreXV (wa := []) (wc := [(ua, .inr (1, [.ref ar, .int (nI cnt)])), (ar, .inl (g.2.2.1, 6, .inr (.inr (.inr (.inr rows))))), (h, .inr (0, [.int (nI rt), .int (nI lf), .ref pa, .ref da, .int (nI T), .int (nI P), .long (lN R0), .long xI, .long xP, .long xW, .long xG])), (pa, .inl (g.2.1, 120, .inl u)), (da, .inl (g.2.1, 121, .inl v))]) (wb := []) (q0 := 0) (ci := 1) (T := TX1) (N := 2) hK hP hD hS hA hX rfl rfl) rfl rfl hl.1 rfl (lv_room (Nat.le_of_ble_eq_true rfl)) dL_adds_62 ⟨Nat.le_of_ble_eq_true rfl, Nat.le_of_ble_eq_true rfl⟩) hP hD hS hA (fun E ce q9 H locs hE hP hD hS hc1 hc2 hc3 => ?_) (fun r_8 w1 H locs hq hP hD hS => ?_)
                    · exact hE.elim
                    · obtain ⟨rfl, rfl⟩ := hq
                      have hP : va_P g.1 vwCl [(ua, .inr (1, [.ref ar, .int (nI cnt)])), (ar, .inl (g.2.2.1, 6, .inr (.inr (.inr (.inr rows))))), (h, .inr (0, [.int (nI rt), .int (nI lf), .ref pa, .ref da, .int (nI T), .int (nI P), .long (lN R0), .long xI, .long xP, .long xW, .long xG])), (pa, .inl (g.2.1, 120, .inl u)), (da, .inl (g.2.1, 121, .inl v))] H := hP
                      have hD : va_D A [(ua, .inr (1, [.ref ar, .int (nI cnt)])), (ar, .inl (g.2.2.1, 6, .inr (.inr (.inr (.inr rows))))), (h, .inr (0, [.int (nI rt), .int (nI lf), .ref pa, .ref da, .int (nI T), .int (nI P), .long (lN R0), .long xI, .long xP, .long xW, .long xG])), (pa, .inl (g.2.1, 120, .inl u)), (da, .inl (g.2.1, 121, .inl v))] := hD
                      refine lv_aload_n hx hb dL_adds_65 rfl (lv_at hl 3 rfl) ?_
                      refine lv_iload_n hx hb dL_adds_66 rfl (lv_at hl 4 rfl) ?_
                      refine z_axi (wa := []) (wc := [(ua, .inr (1, [.ref ar, .int (nI cnt)])), (ar, .inl (g.2.2.1, 6, .inr (.inr (.inr (.inr rows))))), (h, .inr (0, [.int (nI rt), .int (nI lf), .ref pa, .ref da, .int (nI T), .int (nI P), .long (lN R0), .long xI, .long xP, .long xW, .long xG])), (pa, .inl (g.2.1, 120, .inl u)), (da, .inl (g.2.1, 121, .inl v))]) (wb := []) (vx_runV (As := [.int (nI j)]) (rest := [.int (nI (zWr rt py T (T - P)))]) ⟨hx, hb, hml, hown, hts⟩ (p_debtByWorth l hst g ua ar cnt rows j h pa da rt lf T P R0 py I Pd Wn G xI xP xW xG u v hj hrow hZ hC H.size _ rfl) (cwV 1 hts gL_adds_X1_debtByWorth rfl rfl rfl (by decide +kernel) ⟨Nat.le_of_ble_eq_true rfl, Nat.le_of_ble_eq_true rfl⟩) (zpreXV (wa := []) (wc := [(ua, .inr (1, [.ref ar, .int (nI cnt)])), (ar, .inl (g.2.2.1, 6, .inr (.inr (.inr (.inr rows))))), (h, .inr (0, [.int (nI rt), .int (nI lf), .ref pa, .ref da, .int (nI T), .int (nI P), .long (lN R0), .long xI, .long xP, .long xW, .long xG])), (pa, .inl (g.2.1, 120, .inl u)), (da, .inl (g.2.1, 121, .inl v))]) (wb := []) (q0 := 0) (ci := 1) (T := TX1) (N := 2) hK hP hD hS hA hX rfl rfl) rfl rfl hl.1 rfl (lv_room (Nat.le_of_ble_eq_true rfl)) dL_adds_67 ⟨Nat.le_of_ble_eq_true rfl, Nat.le_of_ble_eq_true rfl⟩) hP hD hS hA (fun E ce q9 H locs hE hP hD hS hc1 hc2 hc3 => ?_) (fun r_9 w1 H locs hq hP hD hS => ?_)
                      · exact hE.elim
                      · obtain ⟨rfl, rfl⟩ := hq
                        have hP : va_P g.1 vwCl [(ua, .inr (1, [.ref ar, .int (nI cnt)])), (ar, .inl (g.2.2.1, 6, .inr (.inr (.inr (.inr rows))))), (h, .inr (0, [.int (nI rt), .int (nI lf), .ref pa, .ref da, .int (nI T), .int (nI P), .long (lN R0), .long xI, .long xP, .long xW, .long xG])), (pa, .inl (g.2.1, 120, .inl u)), (da, .inl (g.2.1, 121, .inl v))] H := hP
                        have hD : va_D A [(ua, .inr (1, [.ref ar, .int (nI cnt)])), (ar, .inl (g.2.2.1, 6, .inr (.inr (.inr (.inr rows))))), (h, .inr (0, [.int (nI rt), .int (nI lf), .ref pa, .ref da, .int (nI T), .int (nI P), .long (lN R0), .long xI, .long xP, .long xW, .long xG])), (pa, .inl (g.2.1, 120, .inl u)), (da, .inl (g.2.1, 121, .inl v))] := hD
                        refine z_icmp_ne (tgt := 114) hx hb dL_adds_70 (by decide) (by omega) (by omega) (fun hd => ?_) (fun hd => ?_)
                        · exact absurd rfl hd
                        · skip
                          refine lv_aload_n hx hb dL_adds_73 rfl (lv_at hl 3 rfl) ?_
                          refine lv_iload_n hx hb dL_adds_74 rfl (lv_at hl 4 rfl) ?_
                          refine z_axi (wa := []) (wc := [(ua, .inr (1, [.ref ar, .int (nI cnt)])), (ar, .inl (g.2.2.1, 6, .inr (.inr (.inr (.inr rows))))), (h, .inr (0, [.int (nI rt), .int (nI lf), .ref pa, .ref da, .int (nI T), .int (nI P), .long (lN R0), .long xI, .long xP, .long xW, .long xG])), (pa, .inl (g.2.1, 120, .inl u)), (da, .inl (g.2.1, 121, .inl v))]) (wb := []) (vx_runV (As := [.int (nI j)]) (rest := []) ⟨hx, hb, hml, hown, hts⟩ (p_right l hst g ua ar cnt rows j h pa da rt lf T P R0 py I Pd Wn G xI xP xW xG u v hj hrow hZ hC H.size _ rfl) (cwV 1 hts gL_adds_X1_right rfl rfl rfl (by decide +kernel) ⟨Nat.le_of_ble_eq_true rfl, Nat.le_of_ble_eq_true rfl⟩) (zpreXV (wa := []) (wc := [(ua, .inr (1, [.ref ar, .int (nI cnt)])), (ar, .inl (g.2.2.1, 6, .inr (.inr (.inr (.inr rows))))), (h, .inr (0, [.int (nI rt), .int (nI lf), .ref pa, .ref da, .int (nI T), .int (nI P), .long (lN R0), .long xI, .long xP, .long xW, .long xG])), (pa, .inl (g.2.1, 120, .inl u)), (da, .inl (g.2.1, 121, .inl v))]) (wb := []) (q0 := 0) (ci := 1) (T := TX1) (N := 2) hK hP hD hS hA hX rfl rfl) rfl rfl hl.1 rfl (lv_room (Nat.le_of_ble_eq_true rfl)) dL_adds_75 ⟨Nat.le_of_ble_eq_true rfl, Nat.le_of_ble_eq_true rfl⟩) hP hD hS hA (fun E ce q9 H locs hE hP hD hS hc1 hc2 hc3 => ?_) (fun r_10 w1 H locs hq hP hD hS => ?_)
                          · exact hE.elim
                          · obtain ⟨rfl, rfl⟩ := hq
                            have hP : va_P g.1 vwCl [(ua, .inr (1, [.ref ar, .int (nI cnt)])), (ar, .inl (g.2.2.1, 6, .inr (.inr (.inr (.inr rows))))), (h, .inr (0, [.int (nI rt), .int (nI lf), .ref pa, .ref da, .int (nI T), .int (nI P), .long (lN R0), .long xI, .long xP, .long xW, .long xG])), (pa, .inl (g.2.1, 120, .inl u)), (da, .inl (g.2.1, 121, .inl v))] H := hP
                            have hD : va_D A [(ua, .inr (1, [.ref ar, .int (nI cnt)])), (ar, .inl (g.2.2.1, 6, .inr (.inr (.inr (.inr rows))))), (h, .inr (0, [.int (nI rt), .int (nI lf), .ref pa, .ref da, .int (nI T), .int (nI P), .long (lN R0), .long xI, .long xP, .long xW, .long xG])), (pa, .inl (g.2.1, 120, .inl u)), (da, .inl (g.2.1, 121, .inl v))] := hD
                            refine z_if_lt (tgt := 114) hx hb dL_adds_78 (by decide) (by omega) (fun hr0 => ?_) (fun hr0 => ?_)
                            · exact hr0.elim
                            · skip
                              refine lv_aload_n hx hb dL_adds_81 rfl (lv_at hl 3 rfl) ?_
                              refine lv_iload_n hx hb dL_adds_82 rfl (lv_at hl 4 rfl) ?_
                              refine z_axi (wa := []) (wc := [(ua, .inr (1, [.ref ar, .int (nI cnt)])), (ar, .inl (g.2.2.1, 6, .inr (.inr (.inr (.inr rows))))), (h, .inr (0, [.int (nI rt), .int (nI lf), .ref pa, .ref da, .int (nI T), .int (nI P), .long (lN R0), .long xI, .long xP, .long xW, .long xG])), (pa, .inl (g.2.1, 120, .inl u)), (da, .inl (g.2.1, 121, .inl v))]) (wb := []) (vx_runV (As := [.int (nI j)]) (rest := []) ⟨hx, hb, hml, hown, hts⟩ (p_interest l hst g ua ar cnt rows j h pa da rt lf T P R0 py I Pd Wn G xI xP xW xG u v hj hrow hZ hC H.size _ rfl) (cwV 1 hts gL_adds_X1_interest rfl rfl rfl (by decide +kernel) ⟨Nat.le_of_ble_eq_true rfl, Nat.le_of_ble_eq_true rfl⟩) (zpreXV (wa := []) (wc := [(ua, .inr (1, [.ref ar, .int (nI cnt)])), (ar, .inl (g.2.2.1, 6, .inr (.inr (.inr (.inr rows))))), (h, .inr (0, [.int (nI rt), .int (nI lf), .ref pa, .ref da, .int (nI T), .int (nI P), .long (lN R0), .long xI, .long xP, .long xW, .long xG])), (pa, .inl (g.2.1, 120, .inl u)), (da, .inl (g.2.1, 121, .inl v))]) (wb := []) (q0 := 0) (ci := 1) (T := TX1) (N := 2) hK hP hD hS hA hX rfl rfl) rfl rfl hl.1 rfl (lv_room (Nat.le_of_ble_eq_true rfl)) dL_adds_83 ⟨Nat.le_of_ble_eq_true rfl, Nat.le_of_ble_eq_true rfl⟩) hP hD hS hA (fun E ce q9 H locs hE hP hD hS hc1 hc2 hc3 => ?_) (fun r_11 w1 H locs hq hP hD hS => ?_)
                              · exact hE.elim
                              · obtain ⟨e_r, rfl⟩ := hq
                                have hP : va_P g.1 vwCl [(ua, .inr (1, [.ref ar, .int (nI cnt)])), (ar, .inl (g.2.2.1, 6, .inr (.inr (.inr (.inr rows))))), (h, .inr (0, [.int (nI rt), .int (nI lf), .ref pa, .ref da, .int (nI T), .int (nI P), .long (lN R0), .long xI, .long xP, .long xW, .long xG])), (pa, .inl (g.2.1, 120, .inl u)), (da, .inl (g.2.1, 121, .inl v))] H := hP
                                have hD : va_D A [(ua, .inr (1, [.ref ar, .int (nI cnt)])), (ar, .inl (g.2.2.1, 6, .inr (.inr (.inr (.inr rows))))), (h, .inr (0, [.int (nI rt), .int (nI lf), .ref pa, .ref da, .int (nI T), .int (nI P), .long (lN R0), .long xI, .long xP, .long xW, .long xG])), (pa, .inl (g.2.1, 120, .inl u)), (da, .inl (g.2.1, 121, .inl v))] := hD
                                refine zi (y := I) (e_r) ?_
                                refine zi (y := nI ii) (hint) ?_
                                refine z_if_lt (tgt := 114) hx hb dL_adds_86 (by decide) (by omega) (fun hi0 => ?_) (fun hi0 => ?_)
                                · exact hi0.elim
                                · skip
                                  refine lv_iload hx hb dL_adds_89 (lv_at hl 0 rfl) ?_
                                  refine z_if_eq (tgt := 110) hx hb dL_adds_91 (by decide) (by decide) (fun h => absurd h (by decide)) (fun _ => ?_)
                                  refine lv_aload_n hx hb dL_adds_94 rfl (lv_at hl 3 rfl) ?_
                                  refine lv_iload_n hx hb dL_adds_95 rfl (lv_at hl 4 rfl) ?_
                                  refine z_axi (wa := []) (wc := [(ua, .inr (1, [.ref ar, .int (nI cnt)])), (ar, .inl (g.2.2.1, 6, .inr (.inr (.inr (.inr rows))))), (h, .inr (0, [.int (nI rt), .int (nI lf), .ref pa, .ref da, .int (nI T), .int (nI P), .long (lN R0), .long xI, .long xP, .long xW, .long xG])), (pa, .inl (g.2.1, 120, .inl u)), (da, .inl (g.2.1, 121, .inl v))]) (wb := []) (vx_runV (As := [.int (nI j)]) (rest := []) ⟨hx, hb, hml, hown, hts⟩ (p_debt l hst g ua ar cnt rows j h pa da rt lf T P R0 py I Pd Wn G xI xP xW xG u v hj hrow hZ hC H.size _ rfl) (cwV 1 hts gL_adds_X1_debt rfl rfl rfl (by decide +kernel) ⟨Nat.le_of_ble_eq_true rfl, Nat.le_of_ble_eq_true rfl⟩) (zpreXV (wa := []) (wc := [(ua, .inr (1, [.ref ar, .int (nI cnt)])), (ar, .inl (g.2.2.1, 6, .inr (.inr (.inr (.inr rows))))), (h, .inr (0, [.int (nI rt), .int (nI lf), .ref pa, .ref da, .int (nI T), .int (nI P), .long (lN R0), .long xI, .long xP, .long xW, .long xG])), (pa, .inl (g.2.1, 120, .inl u)), (da, .inl (g.2.1, 121, .inl v))]) (wb := []) (q0 := 0) (ci := 1) (T := TX1) (N := 2) hK hP hD hS hA hX rfl rfl) rfl rfl hl.1 rfl (lv_room (Nat.le_of_ble_eq_true rfl)) dL_adds_96 ⟨Nat.le_of_ble_eq_true rfl, Nat.le_of_ble_eq_true rfl⟩) hP hD hS hA (fun E ce q9 H locs hE hP hD hS hc1 hc2 hc3 => ?_) (fun r_12 w1 H locs hq hP hD hS => ?_)
                                  · exact hE.elim
                                  · obtain ⟨rfl, rfl⟩ := hq
                                    have hP : va_P g.1 vwCl [(ua, .inr (1, [.ref ar, .int (nI cnt)])), (ar, .inl (g.2.2.1, 6, .inr (.inr (.inr (.inr rows))))), (h, .inr (0, [.int (nI rt), .int (nI lf), .ref pa, .ref da, .int (nI T), .int (nI P), .long (lN R0), .long xI, .long xP, .long xW, .long xG])), (pa, .inl (g.2.1, 120, .inl u)), (da, .inl (g.2.1, 121, .inl v))] H := hP
                                    have hD : va_D A [(ua, .inr (1, [.ref ar, .int (nI cnt)])), (ar, .inl (g.2.2.1, 6, .inr (.inr (.inr (.inr rows))))), (h, .inr (0, [.int (nI rt), .int (nI lf), .ref pa, .ref da, .int (nI T), .int (nI P), .long (lN R0), .long xI, .long xP, .long xW, .long xG])), (pa, .inl (g.2.1, 120, .inl u)), (da, .inl (g.2.1, 121, .inl v))] := hD
                                    refine zi (y := nI 0) (by rw [show T - P = 0 by omega]; rfl) ?_
                                    refine z_if_ne (tgt := 114) hx hb dL_adds_99 (by decide) (by decide) (fun h => absurd rfl h) (fun _ => ?_)
                                    refine lv_aload_n hx hb dL_adds_102 rfl (lv_at hl 3 rfl) ?_
                                    refine lv_iload_n hx hb dL_adds_103 rfl (lv_at hl 4 rfl) ?_
                                    refine z_axi (wa := []) (wc := [(ua, .inr (1, [.ref ar, .int (nI cnt)])), (ar, .inl (g.2.2.1, 6, .inr (.inr (.inr (.inr rows))))), (h, .inr (0, [.int (nI rt), .int (nI lf), .ref pa, .ref da, .int (nI T), .int (nI P), .long (lN R0), .long xI, .long xP, .long xW, .long xG])), (pa, .inl (g.2.1, 120, .inl u)), (da, .inl (g.2.1, 121, .inl v))]) (wb := []) (vx_runV (As := [.int (nI j)]) (rest := []) ⟨hx, hb, hml, hown, hts⟩ (p_right l hst g ua ar cnt rows j h pa da rt lf T P R0 py I Pd Wn G xI xP xW xG u v hj hrow hZ hC H.size _ rfl) (cwV 1 hts gL_adds_X1_right rfl rfl rfl (by decide +kernel) ⟨Nat.le_of_ble_eq_true rfl, Nat.le_of_ble_eq_true rfl⟩) (zpreXV (wa := []) (wc := [(ua, .inr (1, [.ref ar, .int (nI cnt)])), (ar, .inl (g.2.2.1, 6, .inr (.inr (.inr (.inr rows))))), (h, .inr (0, [.int (nI rt), .int (nI lf), .ref pa, .ref da, .int (nI T), .int (nI P), .long (lN R0), .long xI, .long xP, .long xW, .long xG])), (pa, .inl (g.2.1, 120, .inl u)), (da, .inl (g.2.1, 121, .inl v))]) (wb := []) (q0 := 0) (ci := 1) (T := TX1) (N := 2) hK hP hD hS hA hX rfl rfl) rfl rfl hl.1 rfl (lv_room (Nat.le_of_ble_eq_true rfl)) dL_adds_104 ⟨Nat.le_of_ble_eq_true rfl, Nat.le_of_ble_eq_true rfl⟩) hP hD hS hA (fun E ce q9 H locs hE hP hD hS hc1 hc2 hc3 => ?_) (fun r_13 w1 H locs hq hP hD hS => ?_)
                                    · exact hE.elim
                                    · obtain ⟨rfl, rfl⟩ := hq
                                      have hP : va_P g.1 vwCl [(ua, .inr (1, [.ref ar, .int (nI cnt)])), (ar, .inl (g.2.2.1, 6, .inr (.inr (.inr (.inr rows))))), (h, .inr (0, [.int (nI rt), .int (nI lf), .ref pa, .ref da, .int (nI T), .int (nI P), .long (lN R0), .long xI, .long xP, .long xW, .long xG])), (pa, .inl (g.2.1, 120, .inl u)), (da, .inl (g.2.1, 121, .inl v))] H := hP
                                      have hD : va_D A [(ua, .inr (1, [.ref ar, .int (nI cnt)])), (ar, .inl (g.2.2.1, 6, .inr (.inr (.inr (.inr rows))))), (h, .inr (0, [.int (nI rt), .int (nI lf), .ref pa, .ref da, .int (nI T), .int (nI P), .long (lN R0), .long xI, .long xP, .long xW, .long xG])), (pa, .inl (g.2.1, 120, .inl u)), (da, .inl (g.2.1, 121, .inl v))] := hD
                                      refine zi (y := nI 0) (by rw [hover (by omega)]) ?_
                                      refine z_if_ne (tgt := 114) hx hb dL_adds_107 (by decide) (by decide) (fun h => absurd rfl h) (fun _ => ?_)
                                      refine lv_iconst (v := nI 1) hx hb dL_adds_110 (by decide) ?_
                                      refine lv_goto (tgt := 115) hx hb dL_adds_111 (by decide) ?_
                                      exact z_zret hx hb hr (by decide) hP hK hD hS dL_adds_115 hlocks (⟨rfl, rfl⟩)
