/-! p20: the law's acts -/
abbrev zNx (p : Program) (l : Launch) (e : Env) (s : State) (m : MethodId) (below : List Frame) (meth : Method) (c : Code) (Q : State → Prop) (g : zG) (b ua ar co mo k cN sN pc : Nat) : Prop := ∀ (cnt rv : Nat) (rows : Nat → Option Nat) (cs ms : Nat → Int32) (aa : Nat → Nat × Nat × Nat) (rr ff : Nat → Nat) (zz : Nat → zS) (qq : Nat → zRaw) (H : Heap) (locs : List Loc) (ls : Array Slot), zTw cnt rows cs ms aa rr ff zz qq rv → va_P g.1 vwCl (zPw g ua ar co mo cnt rows cs ms aa rr ff zz qq) H → va_D (fun q : Nat => s.heap.size ≤ q) (zPw g ua ar co mo cnt rows cs ms aa rr ff zz qq) → va_S (fun q : Nat => s.heap.size ≤ q) s.heap H locs → lv_has ls 14 [(0, .ref b), (1, .ref ua), (2, .ref co), (3, .ref mo), (4, .int (nI cnt)), (5, .int (nI rv)), (6, .int (nI k))] → W p l e room_1 s m #[Value.ref b] below meth c H locs cN sN Q (F0 m pc ls [])
theorem zInv_T {r f : Nat} {z : zS} (h : zInv r f z) : z.1 ≤ 120 ∧ z.2.1 ≤ z.1 ∧ zD r z ≤ 120000000 := by
  obtain ⟨T, P, p, R, I, Pd, W, G⟩ := z
  exact ⟨h.1, h.2.1, zInv_W h r P (Nat.le_refl P)⟩
theorem z_pasL (rt lf k : Nat) (z : zS) : nI ((zPs rt lf k z).1 - (zPs rt lf k z).2.1) = nI (z.1 - (z.2.1 + min k (z.1 - z.2.1))) := by
  unfold zPs
  rw [zIt_T, zIt_P]
theorem z_upid {α : Type} (f : Nat → α) (j : Nat) : va_up f j (f j) = f := by
  funext i
  by_cases h : i = j
  · subst h; rw [va_up_self]
  · rw [va_up_ne _ _ h]
section ZPC
variable {s : State} {H : Heap} {locs : List Loc} {g : zG} {A : Nat → Prop}
theorem zpreC {b L : Nat} {xs : Nat → Int32} {k : Int32} (hK : zK g s) (hXs : va_X b L xs s s.heap) (hbl : b < s.heap.size) (hbA : ¬ A b) (hS : va_S A s.heap H locs) : PreS s H (va_Pc [.ref b, .int k] (fun U => zIn g [] H.size U ∧ va_X b L xs U U.heap ∧ b < H.size)) [.ref b, .int k] := by
  refine ⟨fun a U f mk q => ?_, fun U hU hW => ⟨rfl, ⟨by rw [hU], fun k q h => by simp at h, hK.moved hW.alike, ⟨fun i j p q h => by simp at h, fun k q h => by simp at h⟩⟩, ?_, Nat.lt_of_lt_of_le hbl hS.1⟩⟩
  · obtain ⟨q0, ⟨q1, qP, qK, qD⟩, qX, qb⟩ := q
    exact ⟨q0, ⟨q1, qP, zK.moved (u := U) (U := U.calling f mk a) (Vm.Alike.refl U.vm) qK, qD⟩, va_X.moved (u := U) (U := U.calling f mk a) (Vm.Alike.refl U.vm) qX, qb⟩
  · rw [hU]
    exact (hXs.kept (hS.2.1 b hbl hbA)).moved hW.alike
end ZPC
section ZLW
variable {p : Program} {l : Launch} {e : Env} {s : State} {m : MethodId} {below : List Frame} {meth : Method} {c : Code} {b L : Nat} {xs : Nat → Int32} {g : zG} {ua ar co mo cnt k rv c0 s0 cN sN : Nat} {rows : Nat → Option Nat} {cs ms : Nat → Int32} {aa : Nat → Nat × Nat × Nat} {rr ff : Nat → Nat} {zz : Nat → zS} {qq : Nat → zRaw} {Q : State → Prop} {H : Heap} {locs : List Loc} {ls : Array Slot} {x7 x8 : Int32}
set_option maxHeartbeats 4000000 in
set_option maxRecDepth 100000 in
theorem L_add  (hst : l.stackTraces = false) (hL : L ≤ 260) (C0 : lw_At p s m meth c b L xs) (hK : zK g s) (hX : zX (fun q : Nat => s.heap.size ≤ q) s s.heap) (hcN : c0 + 90 ≤ cN) (hsN : s0 + 600 ≤ sN) (hcR : cN ≤ room_1.cells) (hsR : sN ≤ room_1.slots) (hI : zTw cnt rows cs ms aa rr ff zz qq rv) (hc : cnt < 6) (hP : va_P g.1 vwCl (([(ua, .inr (1, [.ref ar, .int (nI cnt)])), (ar, .inl (g.2.2.1, 6, .inr (.inr (.inr (.inr rows))))), (co, .inl (g.2.1, 6, .inl cs)), (mo, .inl (g.2.1, 6, .inl ms))] ++ (zLs g cnt aa rr ff zz qq))) H) (hD : va_D (fun q : Nat => s.heap.size ≤ q) (([(ua, .inr (1, [.ref ar, .int (nI cnt)])), (ar, .inl (g.2.2.1, 6, .inr (.inr (.inr (.inr rows))))), (co, .inl (g.2.1, 6, .inl cs)), (mo, .inl (g.2.1, 6, .inl ms))] ++ (zLs g cnt aa rr ff zz qq)))) (hS : va_S (fun q : Nat => s.heap.size ≤ q) s.heap H locs) (hl : lv_has ls 14 [(0, .ref b), (1, .ref ua), (2, .ref co), (3, .ref mo), (4, .int (nI cnt)), (5, .int (nI rv)), (6, .int (nI k)), (7, .int x7), (8, .int x8)]) (nx : zNx p l e s m below meth c Q g b ua ar co mo k cN sN 541) : W p l e room_1 s m #[Value.ref b] below meth c H locs c0 s0 Q (F0 m 119 ls []) := by
  obtain ⟨hx, hb, hr, hml, hown, hts0, hXs, hbl, hlocks, hgv⟩ := id C0
  have hown : s.vm.findClass RL = some m.cls := hown
  have hts : ∀ w ∈ wsL_law, w.before #[Value.ref b] s = true := fun w h => hts0 w (wsL_law_in w h)
  have hA : ∀ q : Nat, s.heap.size ≤ q → (fun q : Nat => s.heap.size ≤ q) q := fun _ h => h
  have hbA : ¬ (fun q : Nat => s.heap.size ≤ q) b := Nat.not_le.mpr hbl
  obtain ⟨i1, i2, i3, i4, i5, i6, i7, i8⟩ := id hI
  refine lv_aload_n hx hb dL_law_119 rfl (lv_at hl 2 rfl) ?_
  refine lv_iload hx hb dL_law_120 (lv_at hl 4 rfl) ?_
  refine lv_iload hx hb dL_law_122 (lv_at hl 8 rfl) ?_
  refine lv_sipush (v := nI 5000) hx hb dL_law_124 (by decide) ?_
  refine z_ai (wa := []) (wc := []) (wb := ([(ua, .inr (1, [.ref ar, .int (nI cnt)])), (ar, .inl (g.2.2.1, 6, .inr (.inr (.inr (.inr rows))))), (co, .inl (g.2.1, 6, .inl cs)), (mo, .inl (g.2.1, 6, .inl ms))] ++ (zLs g cnt aa rr ff zz qq))) (va_runS (As := [.int x8, .int (nI 5000)]) (rest := [.int (nI cnt), .ref co]) ⟨hx, hb, hml, hown, hts⟩ (c_low l g x8 5000 (by decide) (by decide) H.size _ rfl) (va_cwS 2 hts gL_law_L_low rfl rfl rfl (by decide +kernel) ⟨Nat.le_of_ble_eq_true rfl, Nat.le_of_ble_eq_true rfl⟩) (zpreS (wa := []) (wc := []) (wb := ([(ua, .inr (1, [.ref ar, .int (nI cnt)])), (ar, .inl (g.2.2.1, 6, .inr (.inr (.inr (.inr rows))))), (co, .inl (g.2.1, 6, .inl cs)), (mo, .inl (g.2.1, 6, .inl ms))] ++ (zLs g cnt aa rr ff zz qq))) hK hP hD) rfl rfl hl.1 rfl (lv_room (Nat.le_of_ble_eq_true rfl)) dL_law_127 ⟨by omega, by omega⟩) hP hD hS hA (fun r9 w1 H locs hq hP hD hS => ?_)
  obtain ⟨⟨t1, ht1, rfl⟩, rfl⟩ := hq
  have hP : va_P g.1 vwCl (([(ua, .inr (1, [.ref ar, .int (nI cnt)])), (ar, .inl (g.2.2.1, 6, .inr (.inr (.inr (.inr rows))))), (co, .inl (g.2.1, 6, .inl cs)), (mo, .inl (g.2.1, 6, .inl ms))] ++ (zLs g cnt aa rr ff zz qq))) H := hP
  have hD : va_D (fun q : Nat => s.heap.size ≤ q) (([(ua, .inr (1, [.ref ar, .int (nI cnt)])), (ar, .inl (g.2.2.1, 6, .inr (.inr (.inr (.inr rows))))), (co, .inl (g.2.1, 6, .inl cs)), (mo, .inl (g.2.1, 6, .inl ms))] ++ (zLs g cnt aa rr ff zz qq))) := hD
  refine z_iast hx hb hK hP hD hS 2 0 rfl rfl (by omega) (by decide) dL_law_130 (fun H locs hP hD hS => ?_)
  have hP : va_P g.1 vwCl (([(ua, .inr (1, [.ref ar, .int (nI cnt)])), (ar, .inl (g.2.2.1, 6, .inr (.inr (.inr (.inr rows))))), (co, .inl (g.2.1, 6, .inl (upd cs cnt (nI t1)))), (mo, .inl (g.2.1, 6, .inl ms))] ++ (zLs g cnt aa rr ff zz qq))) H := hP
  have hD : va_D (fun q : Nat => s.heap.size ≤ q) (([(ua, .inr (1, [.ref ar, .int (nI cnt)])), (ar, .inl (g.2.2.1, 6, .inr (.inr (.inr (.inr rows))))), (co, .inl (g.2.1, 6, .inl (upd cs cnt (nI t1)))), (mo, .inl (g.2.1, 6, .inl ms))] ++ (zLs g cnt aa rr ff zz qq))) := hD
  refine lv_aload_n hx hb dL_law_131 rfl (lv_at hl 3 rfl) ?_
  refine lv_iload hx hb dL_law_132 (lv_at hl 4 rfl) ?_
  refine lv_iconst (v := nI 1) hx hb dL_law_134 (by decide) ?_
  refine lv_iload hx hb dL_law_135 (lv_at hl 7 rfl) ?_
  refine lv_bipush (v := nI 8) hx hb dL_law_137 (by decide) ?_
  refine lv_ishr hx hb dL_law_139 ?_
  refine lv_topi (fun y1 _ => ?_)
  refine lv_bipush (v := nI 60) hx hb dL_law_140 (by decide) ?_
  refine z_ai (wa := []) (wc := []) (wb := ([(ua, .inr (1, [.ref ar, .int (nI cnt)])), (ar, .inl (g.2.2.1, 6, .inr (.inr (.inr (.inr rows))))), (co, .inl (g.2.1, 6, .inl (upd cs cnt (nI t1)))), (mo, .inl (g.2.1, 6, .inl ms))] ++ (zLs g cnt aa rr ff zz qq))) (va_runS (As := [.int y1, .int (nI 60)]) (rest := [.int (nI 1), .int (nI cnt), .ref mo]) ⟨hx, hb, hml, hown, hts⟩ (c_low l g y1 60 (by decide) (by decide) H.size _ rfl) (va_cwS 2 hts gL_law_L_low rfl rfl rfl (by decide +kernel) ⟨Nat.le_of_ble_eq_true rfl, Nat.le_of_ble_eq_true rfl⟩) (zpreS (wa := []) (wc := []) (wb := ([(ua, .inr (1, [.ref ar, .int (nI cnt)])), (ar, .inl (g.2.2.1, 6, .inr (.inr (.inr (.inr rows))))), (co, .inl (g.2.1, 6, .inl (upd cs cnt (nI t1)))), (mo, .inl (g.2.1, 6, .inl ms))] ++ (zLs g cnt aa rr ff zz qq))) hK hP hD) rfl rfl hl.1 rfl (lv_room (Nat.le_of_ble_eq_true rfl)) dL_law_142 ⟨by omega, by omega⟩) hP hD hS hA (fun r9 w1 H locs hq hP hD hS => ?_)
  obtain ⟨⟨t2, ht2, rfl⟩, rfl⟩ := hq
  have hP : va_P g.1 vwCl (([(ua, .inr (1, [.ref ar, .int (nI cnt)])), (ar, .inl (g.2.2.1, 6, .inr (.inr (.inr (.inr rows))))), (co, .inl (g.2.1, 6, .inl (upd cs cnt (nI t1)))), (mo, .inl (g.2.1, 6, .inl ms))] ++ (zLs g cnt aa rr ff zz qq))) H := hP
  have hD : va_D (fun q : Nat => s.heap.size ≤ q) (([(ua, .inr (1, [.ref ar, .int (nI cnt)])), (ar, .inl (g.2.2.1, 6, .inr (.inr (.inr (.inr rows))))), (co, .inl (g.2.1, 6, .inl (upd cs cnt (nI t1)))), (mo, .inl (g.2.1, 6, .inl ms))] ++ (zLs g cnt aa rr ff zz qq))) := hD
  refine z_iadd hx hb dL_law_145 ?_
  refine z_iast hx hb hK hP hD hS 3 0 rfl rfl (by omega) (by decide) dL_law_146 (fun H locs hP hD hS => ?_)
  have hP : va_P g.1 vwCl (([(ua, .inr (1, [.ref ar, .int (nI cnt)])), (ar, .inl (g.2.2.1, 6, .inr (.inr (.inr (.inr rows))))), (co, .inl (g.2.1, 6, .inl (upd cs cnt (nI t1)))), (mo, .inl (g.2.1, 6, .inl (upd ms cnt (nI (1 + t2)))))] ++ (zLs g cnt aa rr ff zz qq))) H := hP
  have hD : va_D (fun q : Nat => s.heap.size ≤ q) (([(ua, .inr (1, [.ref ar, .int (nI cnt)])), (ar, .inl (g.2.2.1, 6, .inr (.inr (.inr (.inr rows))))), (co, .inl (g.2.1, 6, .inl (upd cs cnt (nI t1)))), (mo, .inl (g.2.1, 6, .inl (upd ms cnt (nI (1 + t2)))))] ++ (zLs g cnt aa rr ff zz qq))) := hD
  refine lv_aload_n hx hb dL_law_147 rfl (lv_at hl 1 rfl) ?_
  refine lv_aload_n hx hb dL_law_148 rfl (lv_at hl 3 rfl) ?_
  refine lv_iload hx hb dL_law_149 (lv_at hl 4 rfl) ?_
  refine z_iald hx hb hK hP 3 0 rfl rfl (by omega) (by decide) dL_law_151 ?_
  refine zi (y := nI (1 + t2)) (z_upd_s _ _ _) ?_
  refine lv_iconst (v := nI 1) hx hb dL_law_152 (by decide) ?_
  refine lv_iload hx hb dL_law_153 (lv_at hl 8 rfl) ?_
  refine lv_bipush (v := nI 8) hx hb dL_law_155 (by decide) ?_
  refine lv_ishr hx hb dL_law_157 ?_
  refine lv_topi (fun y2 _ => ?_)
  refine lv_sipush (v := nI 10000) hx hb dL_law_158 (by decide) ?_
  refine z_ai (wa := []) (wc := []) (wb := ([(ua, .inr (1, [.ref ar, .int (nI cnt)])), (ar, .inl (g.2.2.1, 6, .inr (.inr (.inr (.inr rows))))), (co, .inl (g.2.1, 6, .inl (upd cs cnt (nI t1)))), (mo, .inl (g.2.1, 6, .inl (upd ms cnt (nI (1 + t2)))))] ++ (zLs g cnt aa rr ff zz qq))) (va_runS (As := [.int y2, .int (nI 10000)]) (rest := [.int (nI 1), .int (nI (1 + t2)), .ref ua]) ⟨hx, hb, hml, hown, hts⟩ (c_low l g y2 10000 (by decide) (by decide) H.size _ rfl) (va_cwS 2 hts gL_law_L_low rfl rfl rfl (by decide +kernel) ⟨Nat.le_of_ble_eq_true rfl, Nat.le_of_ble_eq_true rfl⟩) (zpreS (wa := []) (wc := []) (wb := ([(ua, .inr (1, [.ref ar, .int (nI cnt)])), (ar, .inl (g.2.2.1, 6, .inr (.inr (.inr (.inr rows))))), (co, .inl (g.2.1, 6, .inl (upd cs cnt (nI t1)))), (mo, .inl (g.2.1, 6, .inl (upd ms cnt (nI (1 + t2)))))] ++ (zLs g cnt aa rr ff zz qq))) hK hP hD) rfl rfl hl.1 rfl (lv_room (Nat.le_of_ble_eq_true rfl)) dL_law_161 ⟨by omega, by omega⟩) hP hD hS hA (fun r9 w1 H locs hq hP hD hS => ?_)
  obtain ⟨⟨t3, ht3, rfl⟩, rfl⟩ := hq
  have hP : va_P g.1 vwCl (([(ua, .inr (1, [.ref ar, .int (nI cnt)])), (ar, .inl (g.2.2.1, 6, .inr (.inr (.inr (.inr rows))))), (co, .inl (g.2.1, 6, .inl (upd cs cnt (nI t1)))), (mo, .inl (g.2.1, 6, .inl (upd ms cnt (nI (1 + t2)))))] ++ (zLs g cnt aa rr ff zz qq))) H := hP
  have hD : va_D (fun q : Nat => s.heap.size ≤ q) (([(ua, .inr (1, [.ref ar, .int (nI cnt)])), (ar, .inl (g.2.2.1, 6, .inr (.inr (.inr (.inr rows))))), (co, .inl (g.2.1, 6, .inl (upd cs cnt (nI t1)))), (mo, .inl (g.2.1, 6, .inl (upd ms cnt (nI (1 + t2)))))] ++ (zLs g cnt aa rr ff zz qq))) := hD
  refine z_iadd hx hb dL_law_164 ?_
  refine lv_iload hx hb dL_law_165 (lv_at hl 7 rfl) ?_
  refine lv_bipush (v := nI 14) hx hb dL_law_167 (by decide) ?_
  refine lv_ishr hx hb dL_law_169 ?_
  refine lv_topi (fun y3 _ => ?_)
  refine lv_bipush (v := nI 13) hx hb dL_law_170 (by decide) ?_
  refine z_ai (wa := []) (wc := []) (wb := ([(ua, .inr (1, [.ref ar, .int (nI cnt)])), (ar, .inl (g.2.2.1, 6, .inr (.inr (.inr (.inr rows))))), (co, .inl (g.2.1, 6, .inl (upd cs cnt (nI t1)))), (mo, .inl (g.2.1, 6, .inl (upd ms cnt (nI (1 + t2)))))] ++ (zLs g cnt aa rr ff zz qq))) (va_runS (As := [.int y3, .int (nI 13)]) (rest := [.int (nI (1 + t3)), .int (nI (1 + t2)), .ref ua]) ⟨hx, hb, hml, hown, hts⟩ (c_low l g y3 13 (by decide) (by decide) H.size _ rfl) (va_cwS 2 hts gL_law_L_low rfl rfl rfl (by decide +kernel) ⟨Nat.le_of_ble_eq_true rfl, Nat.le_of_ble_eq_true rfl⟩) (zpreS (wa := []) (wc := []) (wb := ([(ua, .inr (1, [.ref ar, .int (nI cnt)])), (ar, .inl (g.2.2.1, 6, .inr (.inr (.inr (.inr rows))))), (co, .inl (g.2.1, 6, .inl (upd cs cnt (nI t1)))), (mo, .inl (g.2.1, 6, .inl (upd ms cnt (nI (1 + t2)))))] ++ (zLs g cnt aa rr ff zz qq))) hK hP hD) rfl rfl hl.1 rfl (lv_room (Nat.le_of_ble_eq_true rfl)) dL_law_172 ⟨by omega, by omega⟩) hP hD hS hA (fun r9 w1 H locs hq hP hD hS => ?_)
  obtain ⟨⟨t4, ht4, rfl⟩, rfl⟩ := hq
  have hP : va_P g.1 vwCl (([(ua, .inr (1, [.ref ar, .int (nI cnt)])), (ar, .inl (g.2.2.1, 6, .inr (.inr (.inr (.inr rows))))), (co, .inl (g.2.1, 6, .inl (upd cs cnt (nI t1)))), (mo, .inl (g.2.1, 6, .inl (upd ms cnt (nI (1 + t2)))))] ++ (zLs g cnt aa rr ff zz qq))) H := hP
  have hD : va_D (fun q : Nat => s.heap.size ≤ q) (([(ua, .inr (1, [.ref ar, .int (nI cnt)])), (ar, .inl (g.2.2.1, 6, .inr (.inr (.inr (.inr rows))))), (co, .inl (g.2.1, 6, .inl (upd cs cnt (nI t1)))), (mo, .inl (g.2.1, 6, .inl (upd ms cnt (nI (1 + t2)))))] ++ (zLs g cnt aa rr ff zz qq))) := hD
  refine lv_iload hx hb dL_law_175 (lv_at hl 8 rfl) ?_
  refine lv_iconst (v := nI 4) hx hb dL_law_177 (by decide) ?_
  refine lv_ishr hx hb dL_law_178 ?_
  refine lv_topi (fun y4 _ => ?_)
  refine lv_sipush (v := nI 300) hx hb dL_law_179 (by decide) ?_
  refine z_ai (wa := []) (wc := []) (wb := ([(ua, .inr (1, [.ref ar, .int (nI cnt)])), (ar, .inl (g.2.2.1, 6, .inr (.inr (.inr (.inr rows))))), (co, .inl (g.2.1, 6, .inl (upd cs cnt (nI t1)))), (mo, .inl (g.2.1, 6, .inl (upd ms cnt (nI (1 + t2)))))] ++ (zLs g cnt aa rr ff zz qq))) (va_runS (As := [.int y4, .int (nI 300)]) (rest := [.int (nI t4), .int (nI (1 + t3)), .int (nI (1 + t2)), .ref ua]) ⟨hx, hb, hml, hown, hts⟩ (c_low l g y4 300 (by decide) (by decide) H.size _ rfl) (va_cwS 2 hts gL_law_L_low rfl rfl rfl (by decide +kernel) ⟨Nat.le_of_ble_eq_true rfl, Nat.le_of_ble_eq_true rfl⟩) (zpreS (wa := []) (wc := []) (wb := ([(ua, .inr (1, [.ref ar, .int (nI cnt)])), (ar, .inl (g.2.2.1, 6, .inr (.inr (.inr (.inr rows))))), (co, .inl (g.2.1, 6, .inl (upd cs cnt (nI t1)))), (mo, .inl (g.2.1, 6, .inl (upd ms cnt (nI (1 + t2)))))] ++ (zLs g cnt aa rr ff zz qq))) hK hP hD) rfl rfl hl.1 rfl (lv_room (Nat.le_of_ble_eq_true rfl)) dL_law_182 ⟨by omega, by omega⟩) hP hD hS hA (fun r9 w1 H locs hq hP hD hS => ?_)
  obtain ⟨⟨t5, ht5, rfl⟩, rfl⟩ := hq
  have hP : va_P g.1 vwCl (([(ua, .inr (1, [.ref ar, .int (nI cnt)])), (ar, .inl (g.2.2.1, 6, .inr (.inr (.inr (.inr rows))))), (co, .inl (g.2.1, 6, .inl (upd cs cnt (nI t1)))), (mo, .inl (g.2.1, 6, .inl (upd ms cnt (nI (1 + t2)))))] ++ (zLs g cnt aa rr ff zz qq))) H := hP
  have hD : va_D (fun q : Nat => s.heap.size ≤ q) (([(ua, .inr (1, [.ref ar, .int (nI cnt)])), (ar, .inl (g.2.2.1, 6, .inr (.inr (.inr (.inr rows))))), (co, .inl (g.2.1, 6, .inl (upd cs cnt (nI t1)))), (mo, .inl (g.2.1, 6, .inl (upd ms cnt (nI (1 + t2)))))] ++ (zLs g cnt aa rr ff zz qq))) := hD
  refine lv_iload hx hb dL_law_185 (lv_at hl 7 rfl) ?_
  refine lv_bipush (v := nI 6) hx hb dL_law_187 (by decide) ?_
  refine lv_ishr hx hb dL_law_189 ?_
  refine lv_topi (fun y5 _ => ?_)
  refine lv_sipush (v := nI 20001) hx hb dL_law_190 (by decide) ?_
  refine z_ai (wa := []) (wc := []) (wb := ([(ua, .inr (1, [.ref ar, .int (nI cnt)])), (ar, .inl (g.2.2.1, 6, .inr (.inr (.inr (.inr rows))))), (co, .inl (g.2.1, 6, .inl (upd cs cnt (nI t1)))), (mo, .inl (g.2.1, 6, .inl (upd ms cnt (nI (1 + t2)))))] ++ (zLs g cnt aa rr ff zz qq))) (va_runS (As := [.int y5, .int (nI 20001)]) (rest := [.int (nI t5), .int (nI t4), .int (nI (1 + t3)), .int (nI (1 + t2)), .ref ua]) ⟨hx, hb, hml, hown, hts⟩ (c_low l g y5 20001 (by decide) (by decide) H.size _ rfl) (va_cwS 2 hts gL_law_L_low rfl rfl rfl (by decide +kernel) ⟨Nat.le_of_ble_eq_true rfl, Nat.le_of_ble_eq_true rfl⟩) (zpreS (wa := []) (wc := []) (wb := ([(ua, .inr (1, [.ref ar, .int (nI cnt)])), (ar, .inl (g.2.2.1, 6, .inr (.inr (.inr (.inr rows))))), (co, .inl (g.2.1, 6, .inl (upd cs cnt (nI t1)))), (mo, .inl (g.2.1, 6, .inl (upd ms cnt (nI (1 + t2)))))] ++ (zLs g cnt aa rr ff zz qq))) hK hP hD) rfl rfl hl.1 rfl (lv_room (Nat.le_of_ble_eq_true rfl)) dL_law_193 ⟨by omega, by omega⟩) hP hD hS hA (fun r9 w1 H locs hq hP hD hS => ?_)
  obtain ⟨⟨t6, ht6, rfl⟩, rfl⟩ := hq
  have hP : va_P g.1 vwCl (([(ua, .inr (1, [.ref ar, .int (nI cnt)])), (ar, .inl (g.2.2.1, 6, .inr (.inr (.inr (.inr rows))))), (co, .inl (g.2.1, 6, .inl (upd cs cnt (nI t1)))), (mo, .inl (g.2.1, 6, .inl (upd ms cnt (nI (1 + t2)))))] ++ (zLs g cnt aa rr ff zz qq))) H := hP
  have hD : va_D (fun q : Nat => s.heap.size ≤ q) (([(ua, .inr (1, [.ref ar, .int (nI cnt)])), (ar, .inl (g.2.2.1, 6, .inr (.inr (.inr (.inr rows))))), (co, .inl (g.2.1, 6, .inl (upd cs cnt (nI t1)))), (mo, .inl (g.2.1, 6, .inl (upd ms cnt (nI (1 + t2)))))] ++ (zLs g cnt aa rr ff zz qq))) := hD
  refine lv_iconst (v := nI 1) hx hb dL_law_196 (by decide) ?_
  refine lv_iload hx hb dL_law_197 (lv_at hl 8 rfl) ?_
  refine lv_bipush (v := nI 12) hx hb dL_law_199 (by decide) ?_
  refine lv_ishr hx hb dL_law_201 ?_
  refine lv_topi (fun y6 _ => ?_)
  refine lv_bipush (v := nI 120) hx hb dL_law_202 (by decide) ?_
  refine z_ai (wa := []) (wc := []) (wb := ([(ua, .inr (1, [.ref ar, .int (nI cnt)])), (ar, .inl (g.2.2.1, 6, .inr (.inr (.inr (.inr rows))))), (co, .inl (g.2.1, 6, .inl (upd cs cnt (nI t1)))), (mo, .inl (g.2.1, 6, .inl (upd ms cnt (nI (1 + t2)))))] ++ (zLs g cnt aa rr ff zz qq))) (va_runS (As := [.int y6, .int (nI 120)]) (rest := [.int (nI 1), .int (nI t6), .int (nI t5), .int (nI t4), .int (nI (1 + t3)), .int (nI (1 + t2)), .ref ua]) ⟨hx, hb, hml, hown, hts⟩ (c_low l g y6 120 (by decide) (by decide) H.size _ rfl) (va_cwS 2 hts gL_law_L_low rfl rfl rfl (by decide +kernel) ⟨Nat.le_of_ble_eq_true rfl, Nat.le_of_ble_eq_true rfl⟩) (zpreS (wa := []) (wc := []) (wb := ([(ua, .inr (1, [.ref ar, .int (nI cnt)])), (ar, .inl (g.2.2.1, 6, .inr (.inr (.inr (.inr rows))))), (co, .inl (g.2.1, 6, .inl (upd cs cnt (nI t1)))), (mo, .inl (g.2.1, 6, .inl (upd ms cnt (nI (1 + t2)))))] ++ (zLs g cnt aa rr ff zz qq))) hK hP hD) rfl rfl hl.1 rfl (lv_room (Nat.le_of_ble_eq_true rfl)) dL_law_204 ⟨by omega, by omega⟩) hP hD hS hA (fun r9 w1 H locs hq hP hD hS => ?_)
  obtain ⟨⟨t7, ht7, rfl⟩, rfl⟩ := hq
  have hP : va_P g.1 vwCl (([(ua, .inr (1, [.ref ar, .int (nI cnt)])), (ar, .inl (g.2.2.1, 6, .inr (.inr (.inr (.inr rows))))), (co, .inl (g.2.1, 6, .inl (upd cs cnt (nI t1)))), (mo, .inl (g.2.1, 6, .inl (upd ms cnt (nI (1 + t2)))))] ++ (zLs g cnt aa rr ff zz qq))) H := hP
  have hD : va_D (fun q : Nat => s.heap.size ≤ q) (([(ua, .inr (1, [.ref ar, .int (nI cnt)])), (ar, .inl (g.2.2.1, 6, .inr (.inr (.inr (.inr rows))))), (co, .inl (g.2.1, 6, .inl (upd cs cnt (nI t1)))), (mo, .inl (g.2.1, 6, .inl (upd ms cnt (nI (1 + t2)))))] ++ (zLs g cnt aa rr ff zz qq))) := hD
  refine z_iadd hx hb dL_law_207 ?_
  refine lv_aload_n hx hb dL_law_208 rfl (lv_at hl 2 rfl) ?_
  refine lv_iload hx hb dL_law_209 (lv_at hl 4 rfl) ?_
  refine z_iald hx hb hK hP 2 0 rfl rfl (by omega) (by decide) dL_law_211 ?_
  refine zi (y := nI t1) (z_upd_s _ _ _) ?_
  refine z_ai0 (wc := ([(ua, .inr (1, [.ref ar, .int (nI cnt)])), (ar, .inl (g.2.2.1, 6, .inr (.inr (.inr (.inr rows))))), (co, .inl (g.2.1, 6, .inl (upd cs cnt (nI t1)))), (mo, .inl (g.2.1, 6, .inl (upd ms cnt (nI (1 + t2)))))] ++ (zLs g cnt aa rr ff zz qq))) (va_runV (As := [.int (nI (1 + t2)), .int (nI (1 + t3)), .int (nI t4), .int (nI t5), .int (nI t6), .int (nI (1 + t7)), .int (nI t1)]) (rest := []) ⟨hx, hb, hml, hown, hts⟩ (K_add l hst g ua ar co mo cnt rows cs ms aa rr ff zz qq (1 + t2) (1 + t3) t4 t5 t6 (1 + t7) t1 (by omega) (by omega) (by omega) (by omega) (by omega) (by omega) (by omega) hc hI (upd cs cnt (nI t1)) (upd ms cnt (nI (1 + t2))) (z_upd_s _ _ _) (fun i hi => z_upd_n _ _ (by omega)) (z_upd_s _ _ _) (fun i hi => z_upd_n _ _ (by omega)) H.size _ rfl) (cwV 7 hts gL_law_X1_add rfl rfl rfl (by decide +kernel) ⟨Nat.le_of_ble_eq_true rfl, Nat.le_of_ble_eq_true rfl⟩) (zpreXV0 (wc := ([(ua, .inr (1, [.ref ar, .int (nI cnt)])), (ar, .inl (g.2.2.1, 6, .inr (.inr (.inr (.inr rows))))), (co, .inl (g.2.1, 6, .inl (upd cs cnt (nI t1)))), (mo, .inl (g.2.1, 6, .inl (upd ms cnt (nI (1 + t2)))))] ++ (zLs g cnt aa rr ff zz qq))) (q0 := 0) (ci := 1) (T := TX1) (N := 2) hK hP hD hS hA hX rfl rfl) rfl rfl hl.1 rfl (lv_room (Nat.le_of_ble_eq_true rfl)) dL_law_212 ⟨by omega, by omega⟩) hP hD hS hA (fun r9 w1 H locs hq hP hD hS => ?_)
  obtain ⟨rfl, rows2, aa2, rr2, ff2, zz2, qq2, rfl, hI2⟩ := hq
  have hP : va_P g.1 vwCl (([(ua, .inr (1, [.ref ar, .int (nI (cnt + 1))])), (ar, .inl (g.2.2.1, 6, .inr (.inr (.inr (.inr rows2))))), (co, .inl (g.2.1, 6, .inl (upd cs cnt (nI t1)))), (mo, .inl (g.2.1, 6, .inl (upd ms cnt (nI (1 + t2)))))] ++ (zLs g (cnt + 1) aa2 rr2 ff2 zz2 qq2))) H := hP
  have hD : va_D (fun q : Nat => s.heap.size ≤ q) (([(ua, .inr (1, [.ref ar, .int (nI (cnt + 1))])), (ar, .inl (g.2.2.1, 6, .inr (.inr (.inr (.inr rows2))))), (co, .inl (g.2.1, 6, .inl (upd cs cnt (nI t1)))), (mo, .inl (g.2.1, 6, .inl (upd ms cnt (nI (1 + t2)))))] ++ (zLs g (cnt + 1) aa2 rr2 ff2 zz2 qq2))) := hD
  refine lv_iload hx hb dL_law_215 (lv_at hl 4 rfl) ?_
  refine z_icmp_eq (tgt := 222) hx hb dL_law_217 (by decide) (by omega) (by omega) (fun he => ?_) (fun he => ?_)
  · refine z_iinc (lv' := [(4, .int (nI (cnt + 1))), (0, .ref b), (1, .ref ua), (2, .ref co), (3, .ref mo), (5, .int (nI rv)), (6, .int (nI k)), (7, .int x7), (8, .int x8)]) hx hb dL_law_222 hl (k := 4) rfl (by decide) rfl (fun ls hl => ?_)
    refine lv_goto (tgt := 541) hx hb dL_law_225 (by decide) ?_
    refine W.widen (k := cN) (n := sN) (by omega) (by omega) ?_
    exact nx (cnt + 1) rv rows2 (upd cs cnt (nI t1)) (upd ms cnt (nI (1 + t2))) aa2 rr2 ff2 zz2 qq2 H _ ls hI2 hP hD hS (lv_sub hl [1, 2, 3, 4, 0, 5, 6] rfl)
  · exact absurd rfl he

set_option maxHeartbeats 4000000 in
set_option maxRecDepth 100000 in
theorem L_pass {j : Nat} (hst : l.stackTraces = false) (hL : L ≤ 260) (C0 : lw_At p s m meth c b L xs) (hK : zK g s) (hX : zX (fun q : Nat => s.heap.size ≤ q) s s.heap) (hcN : c0 + 90 ≤ cN) (hsN : s0 + 600 ≤ sN) (hcR : cN ≤ room_1.cells) (hsR : sN ≤ room_1.slots) (hI : zTw cnt rows cs ms aa rr ff zz qq rv) (hj : j < cnt) (hP : va_P g.1 vwCl (([(ua, .inr (1, [.ref ar, .int (nI cnt)])), (ar, .inl (g.2.2.1, 6, .inr (.inr (.inr (.inr rows))))), (co, .inl (g.2.1, 6, .inl cs)), (mo, .inl (g.2.1, 6, .inl ms))] ++ (zLs g cnt aa rr ff zz qq))) H) (hD : va_D (fun q : Nat => s.heap.size ≤ q) (([(ua, .inr (1, [.ref ar, .int (nI cnt)])), (ar, .inl (g.2.2.1, 6, .inr (.inr (.inr (.inr rows))))), (co, .inl (g.2.1, 6, .inl cs)), (mo, .inl (g.2.1, 6, .inl ms))] ++ (zLs g cnt aa rr ff zz qq)))) (hS : va_S (fun q : Nat => s.heap.size ≤ q) s.heap H locs) (hl : lv_has ls 14 [(0, .ref b), (1, .ref ua), (2, .ref co), (3, .ref mo), (4, .int (nI cnt)), (5, .int (nI rv)), (6, .int (nI k)), (8, .int x8), (10, .int (nI j)), (11, .int (nI ((zz j).1 - (zz j).2.1)))]) (nx : zNx p l e s m below meth c Q g b ua ar co mo k cN sN 541) : W p l e room_1 s m #[Value.ref b] below meth c H locs c0 s0 Q (F0 m 234 ls []) := by
  obtain ⟨hx, hb, hr, hml, hown, hts0, hXs, hbl, hlocks, hgv⟩ := id C0
  have hown : s.vm.findClass RL = some m.cls := hown
  have hts : ∀ w ∈ wsL_law, w.before #[Value.ref b] s = true := fun w h => hts0 w (wsL_law_in w h)
  have hA : ∀ q : Nat, s.heap.size ≤ q → (fun q : Nat => s.heap.size ≤ q) q := fun _ h => h
  have hbA : ¬ (fun q : Nat => s.heap.size ≤ q) b := Nat.not_le.mpr hbl
  obtain ⟨i1, i2, i3, i4, i5, i6, i7, i8⟩ := id hI
  obtain ⟨t1, t2, t3⟩ := zInv_T (i5 j hj)
  refine lv_iconst (v := nI 1) hx hb dL_law_234 (by decide) ?_
  refine lv_iload hx hb dL_law_235 (lv_at hl 7 rfl) ?_
  refine lv_bipush (v := nI 12) hx hb dL_law_237 (by decide) ?_
  refine z_ai (wa := []) (wc := []) (wb := ([(ua, .inr (1, [.ref ar, .int (nI cnt)])), (ar, .inl (g.2.2.1, 6, .inr (.inr (.inr (.inr rows))))), (co, .inl (g.2.1, 6, .inl cs)), (mo, .inl (g.2.1, 6, .inl ms))] ++ (zLs g cnt aa rr ff zz qq))) (va_runS (As := [.int x8, .int (nI 12)]) (rest := [.int (nI 1)]) ⟨hx, hb, hml, hown, hts⟩ (c_low l g x8 12 (by decide) (by decide) H.size _ rfl) (va_cwS 2 hts gL_law_L_low rfl rfl rfl (by decide +kernel) ⟨Nat.le_of_ble_eq_true rfl, Nat.le_of_ble_eq_true rfl⟩) (zpreS (wa := []) (wc := []) (wb := ([(ua, .inr (1, [.ref ar, .int (nI cnt)])), (ar, .inl (g.2.2.1, 6, .inr (.inr (.inr (.inr rows))))), (co, .inl (g.2.1, 6, .inl cs)), (mo, .inl (g.2.1, 6, .inl ms))] ++ (zLs g cnt aa rr ff zz qq))) hK hP hD) rfl rfl hl.1 rfl (lv_room (Nat.le_of_ble_eq_true rfl)) dL_law_239 ⟨by omega, by omega⟩) hP hD hS hA (fun r9 w1 H locs hq hP hD hS => ?_)
  obtain ⟨⟨t, ht, rfl⟩, rfl⟩ := hq
  have hP : va_P g.1 vwCl (([(ua, .inr (1, [.ref ar, .int (nI cnt)])), (ar, .inl (g.2.2.1, 6, .inr (.inr (.inr (.inr rows))))), (co, .inl (g.2.1, 6, .inl cs)), (mo, .inl (g.2.1, 6, .inl ms))] ++ (zLs g cnt aa rr ff zz qq))) H := hP
  have hD : va_D (fun q : Nat => s.heap.size ≤ q) (([(ua, .inr (1, [.ref ar, .int (nI cnt)])), (ar, .inl (g.2.2.1, 6, .inr (.inr (.inr (.inr rows))))), (co, .inl (g.2.1, 6, .inl cs)), (mo, .inl (g.2.1, 6, .inl ms))] ++ (zLs g cnt aa rr ff zz qq))) := hD
  refine z_iadd hx hb dL_law_242 ?_
  refine lv_istore (lv' := [(12, .int (nI (1 + t))), (0, .ref b), (1, .ref ua), (2, .ref co), (3, .ref mo), (4, .int (nI cnt)), (5, .int (nI rv)), (6, .int (nI k)), (8, .int x8), (10, .int (nI j)), (11, .int (nI ((zz j).1 - (zz j).2.1)))]) hx hb dL_law_243 hl (by decide) rfl (fun ls hl => ?_)
  refine lv_aload_n hx hb dL_law_245 rfl (lv_at hl 2 rfl) ?_
  refine lv_iload hx hb dL_law_246 (lv_at hl 0 rfl) ?_
  refine z_ai0 (wc := ([(ua, .inr (1, [.ref ar, .int (nI cnt)])), (ar, .inl (g.2.2.1, 6, .inr (.inr (.inr (.inr rows))))), (co, .inl (g.2.1, 6, .inl cs)), (mo, .inl (g.2.1, 6, .inl ms))] ++ (zLs g cnt aa rr ff zz qq))) (va_runV (As := [.int (nI (1 + t))]) (rest := []) ⟨hx, hb, hml, hown, hts⟩ (K_pass l hst g ua ar co mo cnt rows cs ms aa rr ff zz qq (1 + t) (by omega) (by omega) hI H.size _ rfl) (cwV 1 hts gL_law_X1_pass rfl rfl rfl (by decide +kernel) ⟨Nat.le_of_ble_eq_true rfl, Nat.le_of_ble_eq_true rfl⟩) (zpreXV0 (wc := ([(ua, .inr (1, [.ref ar, .int (nI cnt)])), (ar, .inl (g.2.2.1, 6, .inr (.inr (.inr (.inr rows))))), (co, .inl (g.2.1, 6, .inl cs)), (mo, .inl (g.2.1, 6, .inl ms))] ++ (zLs g cnt aa rr ff zz qq))) (q0 := 0) (ci := 1) (T := TX1) (N := 2) hK hP hD hS hA hX rfl rfl) rfl rfl hl.1 rfl (lv_room (Nat.le_of_ble_eq_true rfl)) dL_law_248 ⟨by omega, by omega⟩) hP hD hS hA (fun r9 w1 H locs hq hP hD hS => ?_)
  obtain ⟨qq2, rfl, hI2⟩ := hq
  have hP : va_P g.1 vwCl (([(ua, .inr (1, [.ref ar, .int (nI cnt)])), (ar, .inl (g.2.2.1, 6, .inr (.inr (.inr (.inr rows))))), (co, .inl (g.2.1, 6, .inl cs)), (mo, .inl (g.2.1, 6, .inl ms))] ++ (zLs g cnt aa rr ff (fun k => zPs (rr k) (ff k) (1 + t) (zz k)) qq2))) H := hP
  have hD : va_D (fun q : Nat => s.heap.size ≤ q) (([(ua, .inr (1, [.ref ar, .int (nI cnt)])), (ar, .inl (g.2.2.1, 6, .inr (.inr (.inr (.inr rows))))), (co, .inl (g.2.1, 6, .inl cs)), (mo, .inl (g.2.1, 6, .inl ms))] ++ (zLs g cnt aa rr ff (fun k => zPs (rr k) (ff k) (1 + t) (zz k)) qq2))) := hD
  refine lv_pop hx hb dL_law_251 rfl ?_
  refine lv_aload_n hx hb dL_law_252 rfl (lv_at hl 2 rfl) ?_
  refine lv_iload hx hb dL_law_253 (lv_at hl 9 rfl) ?_
  refine z_ai0 (wc := ([(ua, .inr (1, [.ref ar, .int (nI cnt)])), (ar, .inl (g.2.2.1, 6, .inr (.inr (.inr (.inr rows))))), (co, .inl (g.2.1, 6, .inl cs)), (mo, .inl (g.2.1, 6, .inl ms))] ++ (zLs g cnt aa rr ff (fun k => zPs (rr k) (ff k) (1 + t) (zz k)) qq2))) (va_runV (As := [.int (nI j)]) (rest := []) ⟨hx, hb, hml, hown, hts⟩ (K_toCome l hst g ua ar co mo cnt rows cs ms aa rr ff (fun k => zPs (rr k) (ff k) (1 + t) (zz k)) qq2 j hj hI2 H.size _ rfl) (cwV 1 hts gL_law_X1_toCome rfl rfl rfl (by decide +kernel) ⟨Nat.le_of_ble_eq_true rfl, Nat.le_of_ble_eq_true rfl⟩) (zpreXV0 (wc := ([(ua, .inr (1, [.ref ar, .int (nI cnt)])), (ar, .inl (g.2.2.1, 6, .inr (.inr (.inr (.inr rows))))), (co, .inl (g.2.1, 6, .inl cs)), (mo, .inl (g.2.1, 6, .inl ms))] ++ (zLs g cnt aa rr ff (fun k => zPs (rr k) (ff k) (1 + t) (zz k)) qq2))) (q0 := 0) (ci := 1) (T := TX1) (N := 2) hK hP hD hS hA hX rfl rfl) rfl rfl hl.1 rfl (lv_room (Nat.le_of_ble_eq_true rfl)) dL_law_255 ⟨by omega, by omega⟩) hP hD hS hA (fun r9 w1 H locs hq hP hD hS => ?_)
  obtain ⟨rfl, rfl⟩ := hq
  have hP : va_P g.1 vwCl (([(ua, .inr (1, [.ref ar, .int (nI cnt)])), (ar, .inl (g.2.2.1, 6, .inr (.inr (.inr (.inr rows))))), (co, .inl (g.2.1, 6, .inl cs)), (mo, .inl (g.2.1, 6, .inl ms))] ++ (zLs g cnt aa rr ff (fun k => zPs (rr k) (ff k) (1 + t) (zz k)) qq2))) H := hP
  have hD : va_D (fun q : Nat => s.heap.size ≤ q) (([(ua, .inr (1, [.ref ar, .int (nI cnt)])), (ar, .inl (g.2.2.1, 6, .inr (.inr (.inr (.inr rows))))), (co, .inl (g.2.1, 6, .inl cs)), (mo, .inl (g.2.1, 6, .inl ms))] ++ (zLs g cnt aa rr ff (fun k => zPs (rr k) (ff k) (1 + t) (zz k)) qq2))) := hD
  refine zi (y := nI ((zz j).1 - ((zz j).2.1 + min (1 + t) ((zz j).1 - (zz j).2.1)))) (z_pasL _ _ _ _) ?_
  refine lv_iload hx hb dL_law_258 (lv_at hl 10 rfl) ?_
  refine lv_iload hx hb dL_law_260 (lv_at hl 0 rfl) ?_
  refine z_icmp_le (tgt := 273) hx hb dL_law_262 (by decide) (by omega) (by omega) (fun hd => ?_) (fun hd => ?_)
  · refine lv_iconst (v := nI 0) hx hb dL_law_273 (by decide) ?_
    refine z_icmp_eq (tgt := 279) hx hb dL_law_274 (by decide) (by omega) (by omega) (fun he => ?_) (fun he => ?_)
    · refine lv_goto (tgt := 541) hx hb dL_law_279 (by decide) ?_
      refine W.widen (k := cN) (n := sN) (by omega) (by omega) ?_
      exact nx cnt rv rows cs ms aa rr ff (fun k => zPs (rr k) (ff k) (1 + t) (zz k)) qq2 H _ ls hI2 hP hD hS (lv_sub hl [1, 2, 3, 4, 5, 6, 7] rfl)
    · exact absurd (by omega) he
  · refine lv_iload hx hb dL_law_265 (lv_at hl 10 rfl) ?_
    refine lv_iload hx hb dL_law_267 (lv_at hl 0 rfl) ?_
    refine z_isub hx hb dL_law_269 (by omega) ?_
    refine lv_goto (tgt := 274) hx hb dL_law_270 (by decide) ?_
    refine z_icmp_eq (tgt := 279) hx hb dL_law_274 (by decide) (by omega) (by omega) (fun he => ?_) (fun he => ?_)
    · refine lv_goto (tgt := 541) hx hb dL_law_279 (by decide) ?_
      refine W.widen (k := cN) (n := sN) (by omega) (by omega) ?_
      exact nx cnt rv rows cs ms aa rr ff (fun k => zPs (rr k) (ff k) (1 + t) (zz k)) qq2 H _ ls hI2 hP hD hS (lv_sub hl [1, 2, 3, 4, 5, 6, 7] rfl)
    · exact absurd (by omega) he

set_option maxHeartbeats 4000000 in
set_option maxRecDepth 100000 in
theorem L_review {j : Nat} (hst : l.stackTraces = false) (hL : L ≤ 260) (C0 : lw_At p s m meth c b L xs) (hK : zK g s) (hX : zX (fun q : Nat => s.heap.size ≤ q) s s.heap) (hcN : c0 + 90 ≤ cN) (hsN : s0 + 600 ≤ sN) (hcR : cN ≤ room_1.cells) (hsR : sN ≤ room_1.slots) (hI : zTw cnt rows cs ms aa rr ff zz qq rv) (hj : j < cnt) (hlt : (zz j).2.1 < (zz j).1) (hr8 : rv < 8) (hP : va_P g.1 vwCl (([(ua, .inr (1, [.ref ar, .int (nI cnt)])), (ar, .inl (g.2.2.1, 6, .inr (.inr (.inr (.inr rows))))), (co, .inl (g.2.1, 6, .inl cs)), (mo, .inl (g.2.1, 6, .inl ms))] ++ (zLs g cnt aa rr ff zz qq))) H) (hD : va_D (fun q : Nat => s.heap.size ≤ q) (([(ua, .inr (1, [.ref ar, .int (nI cnt)])), (ar, .inl (g.2.2.1, 6, .inr (.inr (.inr (.inr rows))))), (co, .inl (g.2.1, 6, .inl cs)), (mo, .inl (g.2.1, 6, .inl ms))] ++ (zLs g cnt aa rr ff zz qq)))) (hS : va_S (fun q : Nat => s.heap.size ≤ q) s.heap H locs) (hl : lv_has ls 14 [(0, .ref b), (1, .ref ua), (2, .ref co), (3, .ref mo), (4, .int (nI cnt)), (5, .int (nI rv)), (6, .int (nI k)), (8, .int x8), (10, .int (nI j)), (11, .int (nI ((zz j).1 - (zz j).2.1)))]) (nx : zNx p l e s m below meth c Q g b ua ar co mo k cN sN 541) : W p l e room_1 s m #[Value.ref b] below meth c H locs c0 s0 Q (F0 m 300 ls []) := by
  obtain ⟨hx, hb, hr, hml, hown, hts0, hXs, hbl, hlocks, hgv⟩ := id C0
  have hown : s.vm.findClass RL = some m.cls := hown
  have hts : ∀ w ∈ wsL_law, w.before #[Value.ref b] s = true := fun w h => hts0 w (wsL_law_in w h)
  have hA : ∀ q : Nat, s.heap.size ≤ q → (fun q : Nat => s.heap.size ≤ q) q := fun _ h => h
  have hbA : ¬ (fun q : Nat => s.heap.size ≤ q) b := Nat.not_le.mpr hbl
  obtain ⟨i1, i2, i3, i4, i5, i6, i7, i8⟩ := id hI
  refine z_iinc (lv' := [(5, .int (nI (rv + 1))), (0, .ref b), (1, .ref ua), (2, .ref co), (3, .ref mo), (4, .int (nI cnt)), (6, .int (nI k)), (8, .int x8), (10, .int (nI j)), (11, .int (nI ((zz j).1 - (zz j).2.1)))]) hx hb dL_law_300 hl (k := 5) rfl (by decide) rfl (fun ls hl => ?_)
  refine lv_aload_n hx hb dL_law_303 rfl (lv_at hl 2 rfl) ?_
  refine lv_iload hx hb dL_law_304 (lv_at hl 8 rfl) ?_
  refine lv_iload hx hb dL_law_306 (lv_at hl 7 rfl) ?_
  refine lv_bipush (v := nI 100) hx hb dL_law_308 (by decide) ?_
  refine z_ai (wa := []) (wc := []) (wb := ([(ua, .inr (1, [.ref ar, .int (nI cnt)])), (ar, .inl (g.2.2.1, 6, .inr (.inr (.inr (.inr rows))))), (co, .inl (g.2.1, 6, .inl cs)), (mo, .inl (g.2.1, 6, .inl ms))] ++ (zLs g cnt aa rr ff zz qq))) (va_runS (As := [.int x8, .int (nI 100)]) (rest := [.int (nI j), .ref ua]) ⟨hx, hb, hml, hown, hts⟩ (c_low l g x8 100 (by decide) (by decide) H.size _ rfl) (va_cwS 2 hts gL_law_L_low rfl rfl rfl (by decide +kernel) ⟨Nat.le_of_ble_eq_true rfl, Nat.le_of_ble_eq_true rfl⟩) (zpreS (wa := []) (wc := []) (wb := ([(ua, .inr (1, [.ref ar, .int (nI cnt)])), (ar, .inl (g.2.2.1, 6, .inr (.inr (.inr (.inr rows))))), (co, .inl (g.2.1, 6, .inl cs)), (mo, .inl (g.2.1, 6, .inl ms))] ++ (zLs g cnt aa rr ff zz qq))) hK hP hD) rfl rfl hl.1 rfl (lv_room (Nat.le_of_ble_eq_true rfl)) dL_law_310 ⟨by omega, by omega⟩) hP hD hS hA (fun r9 w1 H locs hq hP hD hS => ?_)
  obtain ⟨⟨t, ht, rfl⟩, rfl⟩ := hq
  have hP : va_P g.1 vwCl (([(ua, .inr (1, [.ref ar, .int (nI cnt)])), (ar, .inl (g.2.2.1, 6, .inr (.inr (.inr (.inr rows))))), (co, .inl (g.2.1, 6, .inl cs)), (mo, .inl (g.2.1, 6, .inl ms))] ++ (zLs g cnt aa rr ff zz qq))) H := hP
  have hD : va_D (fun q : Nat => s.heap.size ≤ q) (([(ua, .inr (1, [.ref ar, .int (nI cnt)])), (ar, .inl (g.2.2.1, 6, .inr (.inr (.inr (.inr rows))))), (co, .inl (g.2.1, 6, .inl cs)), (mo, .inl (g.2.1, 6, .inl ms))] ++ (zLs g cnt aa rr ff zz qq))) := hD
  refine lv_bipush (v := nI 50) hx hb dL_law_313 (by decide) ?_
  refine lv_isub hx hb dL_law_315 ?_
  refine z_ai0 (wc := ([(ua, .inr (1, [.ref ar, .int (nI cnt)])), (ar, .inl (g.2.2.1, 6, .inr (.inr (.inr (.inr rows))))), (co, .inl (g.2.1, 6, .inl cs)), (mo, .inl (g.2.1, 6, .inl ms))] ++ (zLs g cnt aa rr ff zz qq))) (va_runV (As := [.int (nI j), .int ((nI t) - (nI 50))]) (rest := []) ⟨hx, hb, hml, hown, hts⟩ (K_review l hst g ua ar co mo cnt rows cs ms aa rr ff zz qq j t hj hI ht hlt hr8 H.size _ rfl) (cwV 2 hts gL_law_X1_review rfl rfl rfl (by decide +kernel) ⟨Nat.le_of_ble_eq_true rfl, Nat.le_of_ble_eq_true rfl⟩) (zpreXV0 (wc := ([(ua, .inr (1, [.ref ar, .int (nI cnt)])), (ar, .inl (g.2.2.1, 6, .inr (.inr (.inr (.inr rows))))), (co, .inl (g.2.1, 6, .inl cs)), (mo, .inl (g.2.1, 6, .inl ms))] ++ (zLs g cnt aa rr ff zz qq))) (q0 := 0) (ci := 1) (T := TX1) (N := 2) hK hP hD hS hA hX rfl rfl) rfl rfl hl.1 rfl (lv_room (Nat.le_of_ble_eq_true rfl)) dL_law_316 ⟨by omega, by omega⟩) hP hD hS hA (fun r9 w1 H locs hq hP hD hS => ?_)
  obtain ⟨z2, q2, ⟨rfl, hz1, hz2, hz3⟩, rfl, hz4⟩ := hq
  have hP : va_P g.1 vwCl (([(ua, .inr (1, [.ref ar, .int (nI cnt)])), (ar, .inl (g.2.2.1, 6, .inr (.inr (.inr (.inr rows))))), (co, .inl (g.2.1, 6, .inl cs)), (mo, .inl (g.2.1, 6, .inl ms))] ++ (zLs g cnt aa rr ff (va_up zz j z2) (va_up qq j q2)))) H := hP
  have hD : va_D (fun q : Nat => s.heap.size ≤ q) (([(ua, .inr (1, [.ref ar, .int (nI cnt)])), (ar, .inl (g.2.2.1, 6, .inr (.inr (.inr (.inr rows))))), (co, .inl (g.2.1, 6, .inl cs)), (mo, .inl (g.2.1, 6, .inl ms))] ++ (zLs g cnt aa rr ff (va_up zz j z2) (va_up qq j q2)))) := hD
  have hI2 := hI.up hz2 hz4 hz3 (Nat.le_succ rv) hr8 ((i8 j hj).trans (by rw [hz1])) (fun i _ => rfl)
  obtain ⟨-, -, t3⟩ := zInv_T hz2
  refine lv_aload_n hx hb dL_law_319 rfl (lv_at hl 2 rfl) ?_
  refine lv_iload hx hb dL_law_320 (lv_at hl 8 rfl) ?_
  refine z_ai0 (wc := ([(ua, .inr (1, [.ref ar, .int (nI cnt)])), (ar, .inl (g.2.2.1, 6, .inr (.inr (.inr (.inr rows))))), (co, .inl (g.2.1, 6, .inl cs)), (mo, .inl (g.2.1, 6, .inl ms))] ++ (zLs g cnt aa rr ff (va_up zz j z2) (va_up qq j q2)))) (va_runV (As := [.int (nI j)]) (rest := [.int (nI (zD (rr j) z2))]) ⟨hx, hb, hml, hown, hts⟩ (K_debt l hst g ua ar co mo cnt rows cs ms aa rr ff (va_up zz j z2) (va_up qq j q2) j hj hI2 H.size _ rfl) (cwV 1 hts gL_law_X1_debt rfl rfl rfl (by decide +kernel) ⟨Nat.le_of_ble_eq_true rfl, Nat.le_of_ble_eq_true rfl⟩) (zpreXV0 (wc := ([(ua, .inr (1, [.ref ar, .int (nI cnt)])), (ar, .inl (g.2.2.1, 6, .inr (.inr (.inr (.inr rows))))), (co, .inl (g.2.1, 6, .inl cs)), (mo, .inl (g.2.1, 6, .inl ms))] ++ (zLs g cnt aa rr ff (va_up zz j z2) (va_up qq j q2)))) (q0 := 0) (ci := 1) (T := TX1) (N := 2) hK hP hD hS hA hX rfl rfl) rfl rfl hl.1 rfl (lv_room (Nat.le_of_ble_eq_true rfl)) dL_law_322 ⟨by omega, by omega⟩) hP hD hS hA (fun r9 w1 H locs hq hP hD hS => ?_)
  obtain ⟨rfl, rfl⟩ := hq
  have hP : va_P g.1 vwCl (([(ua, .inr (1, [.ref ar, .int (nI cnt)])), (ar, .inl (g.2.2.1, 6, .inr (.inr (.inr (.inr rows))))), (co, .inl (g.2.1, 6, .inl cs)), (mo, .inl (g.2.1, 6, .inl ms))] ++ (zLs g cnt aa rr ff (va_up zz j z2) (va_up qq j q2)))) H := hP
  have hD : va_D (fun q : Nat => s.heap.size ≤ q) (([(ua, .inr (1, [.ref ar, .int (nI cnt)])), (ar, .inl (g.2.2.1, 6, .inr (.inr (.inr (.inr rows))))), (co, .inl (g.2.1, 6, .inl cs)), (mo, .inl (g.2.1, 6, .inl ms))] ++ (zLs g cnt aa rr ff (va_up zz j z2) (va_up qq j q2)))) := hD
  refine zi (y := nI (zD (rr j) z2)) (by rw [va_up_self]) ?_
  refine z_icmp_eq (tgt := 541) hx hb dL_law_325 (by decide) (by omega) (by omega) (fun he => ?_) (fun he => ?_)
  · refine W.widen (k := cN) (n := sN) (by omega) (by omega) ?_
    exact nx cnt (rv + 1) rows cs ms aa rr ff (va_up zz j z2) (va_up qq j q2) H _ ls hI2 hP hD hS (lv_sub hl [1, 2, 3, 4, 5, 0, 6] rfl)
  · exact absurd rfl he

set_option maxHeartbeats 4000000 in
set_option maxRecDepth 100000 in
theorem L_len {j : Nat} (hst : l.stackTraces = false) (hL : L ≤ 260) (C0 : lw_At p s m meth c b L xs) (hK : zK g s) (hX : zX (fun q : Nat => s.heap.size ≤ q) s s.heap) (hcN : c0 + 90 ≤ cN) (hsN : s0 + 600 ≤ sN) (hcR : cN ≤ room_1.cells) (hsR : sN ≤ room_1.slots) (hI : zTw cnt rows cs ms aa rr ff zz qq rv) (hj : j < cnt) (hlt : (zz j).2.1 < (zz j).1) (hm : (zz j).1 < 110) (hP : va_P g.1 vwCl (([(ua, .inr (1, [.ref ar, .int (nI cnt)])), (ar, .inl (g.2.2.1, 6, .inr (.inr (.inr (.inr rows))))), (co, .inl (g.2.1, 6, .inl cs)), (mo, .inl (g.2.1, 6, .inl ms))] ++ (zLs g cnt aa rr ff zz qq))) H) (hD : va_D (fun q : Nat => s.heap.size ≤ q) (([(ua, .inr (1, [.ref ar, .int (nI cnt)])), (ar, .inl (g.2.2.1, 6, .inr (.inr (.inr (.inr rows))))), (co, .inl (g.2.1, 6, .inl cs)), (mo, .inl (g.2.1, 6, .inl ms))] ++ (zLs g cnt aa rr ff zz qq)))) (hS : va_S (fun q : Nat => s.heap.size ≤ q) s.heap H locs) (hl : lv_has ls 14 [(0, .ref b), (1, .ref ua), (2, .ref co), (3, .ref mo), (4, .int (nI cnt)), (5, .int (nI rv)), (6, .int (nI k)), (8, .int x8), (10, .int (nI j)), (11, .int (nI ((zz j).1 - (zz j).2.1)))]) (nx : zNx p l e s m below meth c Q g b ua ar co mo k cN sN 541) : W p l e room_1 s m #[Value.ref b] below meth c H locs c0 s0 Q (F0 m 350 ls []) := by
  obtain ⟨hx, hb, hr, hml, hown, hts0, hXs, hbl, hlocks, hgv⟩ := id C0
  have hown : s.vm.findClass RL = some m.cls := hown
  have hts : ∀ w ∈ wsL_law, w.before #[Value.ref b] s = true := fun w h => hts0 w (wsL_law_in w h)
  have hA : ∀ q : Nat, s.heap.size ≤ q → (fun q : Nat => s.heap.size ≤ q) q := fun _ h => h
  have hbA : ¬ (fun q : Nat => s.heap.size ≤ q) b := Nat.not_le.mpr hbl
  obtain ⟨i1, i2, i3, i4, i5, i6, i7, i8⟩ := id hI
  obtain ⟨t1, t2, t3⟩ := zInv_T (i5 j hj)
  refine lv_iconst (v := nI 1) hx hb dL_law_350 (by decide) ?_
  refine lv_iload hx hb dL_law_351 (lv_at hl 7 rfl) ?_
  refine lv_bipush (v := nI 10) hx hb dL_law_353 (by decide) ?_
  refine z_ai (wa := []) (wc := []) (wb := ([(ua, .inr (1, [.ref ar, .int (nI cnt)])), (ar, .inl (g.2.2.1, 6, .inr (.inr (.inr (.inr rows))))), (co, .inl (g.2.1, 6, .inl cs)), (mo, .inl (g.2.1, 6, .inl ms))] ++ (zLs g cnt aa rr ff zz qq))) (va_runS (As := [.int x8, .int (nI 10)]) (rest := [.int (nI 1)]) ⟨hx, hb, hml, hown, hts⟩ (c_low l g x8 10 (by decide) (by decide) H.size _ rfl) (va_cwS 2 hts gL_law_L_low rfl rfl rfl (by decide +kernel) ⟨Nat.le_of_ble_eq_true rfl, Nat.le_of_ble_eq_true rfl⟩) (zpreS (wa := []) (wc := []) (wb := ([(ua, .inr (1, [.ref ar, .int (nI cnt)])), (ar, .inl (g.2.2.1, 6, .inr (.inr (.inr (.inr rows))))), (co, .inl (g.2.1, 6, .inl cs)), (mo, .inl (g.2.1, 6, .inl ms))] ++ (zLs g cnt aa rr ff zz qq))) hK hP hD) rfl rfl hl.1 rfl (lv_room (Nat.le_of_ble_eq_true rfl)) dL_law_355 ⟨by omega, by omega⟩) hP hD hS hA (fun r9 w1 H locs hq hP hD hS => ?_)
  obtain ⟨⟨t, ht, rfl⟩, rfl⟩ := hq
  have hP : va_P g.1 vwCl (([(ua, .inr (1, [.ref ar, .int (nI cnt)])), (ar, .inl (g.2.2.1, 6, .inr (.inr (.inr (.inr rows))))), (co, .inl (g.2.1, 6, .inl cs)), (mo, .inl (g.2.1, 6, .inl ms))] ++ (zLs g cnt aa rr ff zz qq))) H := hP
  have hD : va_D (fun q : Nat => s.heap.size ≤ q) (([(ua, .inr (1, [.ref ar, .int (nI cnt)])), (ar, .inl (g.2.2.1, 6, .inr (.inr (.inr (.inr rows))))), (co, .inl (g.2.1, 6, .inl cs)), (mo, .inl (g.2.1, 6, .inl ms))] ++ (zLs g cnt aa rr ff zz qq))) := hD
  refine z_iadd hx hb dL_law_358 ?_
  refine lv_istore (lv' := [(12, .int (nI (1 + t))), (0, .ref b), (1, .ref ua), (2, .ref co), (3, .ref mo), (4, .int (nI cnt)), (5, .int (nI rv)), (6, .int (nI k)), (8, .int x8), (10, .int (nI j)), (11, .int (nI ((zz j).1 - (zz j).2.1)))]) hx hb dL_law_359 hl (by decide) rfl (fun ls hl => ?_)
  refine lv_aload_n hx hb dL_law_361 rfl (lv_at hl 4 rfl) ?_
  refine lv_iload hx hb dL_law_362 (lv_at hl 9 rfl) ?_
  refine lv_dup2_11 hx hb dL_law_364 rfl rfl ?_
  refine z_iald hx hb hK hP 3 0 rfl rfl (by omega) (by decide) dL_law_365 ?_
  refine zi (y := nI ((zz j).1)) (i8 j hj) ?_
  refine lv_iload hx hb dL_law_366 (lv_at hl 0 rfl) ?_
  refine z_iadd hx hb dL_law_368 ?_
  refine z_iast hx hb hK hP hD hS 3 0 rfl rfl (by omega) (by decide) dL_law_369 (fun H locs hP hD hS => ?_)
  have hP : va_P g.1 vwCl (([(ua, .inr (1, [.ref ar, .int (nI cnt)])), (ar, .inl (g.2.2.1, 6, .inr (.inr (.inr (.inr rows))))), (co, .inl (g.2.1, 6, .inl cs)), (mo, .inl (g.2.1, 6, .inl (upd ms j (nI ((zz j).1 + (1 + t))))))] ++ (zLs g cnt aa rr ff zz qq))) H := hP
  have hD : va_D (fun q : Nat => s.heap.size ≤ q) (([(ua, .inr (1, [.ref ar, .int (nI cnt)])), (ar, .inl (g.2.2.1, 6, .inr (.inr (.inr (.inr rows))))), (co, .inl (g.2.1, 6, .inl cs)), (mo, .inl (g.2.1, 6, .inl (upd ms j (nI ((zz j).1 + (1 + t))))))] ++ (zLs g cnt aa rr ff zz qq))) := hD
  refine lv_aload_n hx hb dL_law_370 rfl (lv_at hl 2 rfl) ?_
  refine lv_iload hx hb dL_law_371 (lv_at hl 9 rfl) ?_
  refine lv_iload hx hb dL_law_373 (lv_at hl 0 rfl) ?_
  refine lv_iload hx hb dL_law_375 (lv_at hl 8 rfl) ?_
  refine lv_iconst (v := nI 5) hx hb dL_law_377 (by decide) ?_
  refine lv_ishr hx hb dL_law_378 ?_
  refine lv_topi (fun y1 _ => ?_)
  refine lv_sipush (v := nI 10001) hx hb dL_law_379 (by decide) ?_
  refine z_ai (wa := []) (wc := []) (wb := ([(ua, .inr (1, [.ref ar, .int (nI cnt)])), (ar, .inl (g.2.2.1, 6, .inr (.inr (.inr (.inr rows))))), (co, .inl (g.2.1, 6, .inl cs)), (mo, .inl (g.2.1, 6, .inl (upd ms j (nI ((zz j).1 + (1 + t))))))] ++ (zLs g cnt aa rr ff zz qq))) (va_runS (As := [.int y1, .int (nI 10001)]) (rest := [.int (nI (1 + t)), .int (nI j), .ref ua]) ⟨hx, hb, hml, hown, hts⟩ (c_low l g y1 10001 (by decide) (by decide) H.size _ rfl) (va_cwS 2 hts gL_law_L_low rfl rfl rfl (by decide +kernel) ⟨Nat.le_of_ble_eq_true rfl, Nat.le_of_ble_eq_true rfl⟩) (zpreS (wa := []) (wc := []) (wb := ([(ua, .inr (1, [.ref ar, .int (nI cnt)])), (ar, .inl (g.2.2.1, 6, .inr (.inr (.inr (.inr rows))))), (co, .inl (g.2.1, 6, .inl cs)), (mo, .inl (g.2.1, 6, .inl (upd ms j (nI ((zz j).1 + (1 + t))))))] ++ (zLs g cnt aa rr ff zz qq))) hK hP hD) rfl rfl hl.1 rfl (lv_room (Nat.le_of_ble_eq_true rfl)) dL_law_382 ⟨by omega, by omega⟩) hP hD hS hA (fun r9 w1 H locs hq hP hD hS => ?_)
  obtain ⟨⟨v, hv, rfl⟩, rfl⟩ := hq
  have hP : va_P g.1 vwCl (([(ua, .inr (1, [.ref ar, .int (nI cnt)])), (ar, .inl (g.2.2.1, 6, .inr (.inr (.inr (.inr rows))))), (co, .inl (g.2.1, 6, .inl cs)), (mo, .inl (g.2.1, 6, .inl (upd ms j (nI ((zz j).1 + (1 + t))))))] ++ (zLs g cnt aa rr ff zz qq))) H := hP
  have hD : va_D (fun q : Nat => s.heap.size ≤ q) (([(ua, .inr (1, [.ref ar, .int (nI cnt)])), (ar, .inl (g.2.2.1, 6, .inr (.inr (.inr (.inr rows))))), (co, .inl (g.2.1, 6, .inl cs)), (mo, .inl (g.2.1, 6, .inl (upd ms j (nI ((zz j).1 + (1 + t))))))] ++ (zLs g cnt aa rr ff zz qq))) := hD
  refine z_ai0 (wc := ([(ua, .inr (1, [.ref ar, .int (nI cnt)])), (ar, .inl (g.2.2.1, 6, .inr (.inr (.inr (.inr rows))))), (co, .inl (g.2.1, 6, .inl cs)), (mo, .inl (g.2.1, 6, .inl (upd ms j (nI ((zz j).1 + (1 + t))))))] ++ (zLs g cnt aa rr ff zz qq))) (va_runV (As := [.int (nI j), .int (nI (1 + t)), .int (nI v)]) (rest := []) ⟨hx, hb, hml, hown, hts⟩ (K_lengthen l hst g ua ar co mo cnt rows cs (upd ms j (nI ((zz j).1 + (1 + t)))) aa rr ff zz qq (rv := rv) j (1 + t) v hj hI (by omega) (by omega) (by omega) hlt (by omega) H.size _ rfl) (cwV 3 hts gL_law_X1_lengthen rfl rfl rfl (by decide +kernel) ⟨Nat.le_of_ble_eq_true rfl, Nat.le_of_ble_eq_true rfl⟩) (zpreXV0 (wc := ([(ua, .inr (1, [.ref ar, .int (nI cnt)])), (ar, .inl (g.2.2.1, 6, .inr (.inr (.inr (.inr rows))))), (co, .inl (g.2.1, 6, .inl cs)), (mo, .inl (g.2.1, 6, .inl (upd ms j (nI ((zz j).1 + (1 + t))))))] ++ (zLs g cnt aa rr ff zz qq))) (q0 := 0) (ci := 1) (T := TX1) (N := 2) hK hP hD hS hA hX rfl rfl) rfl rfl hl.1 rfl (lv_room (Nat.le_of_ble_eq_true rfl)) dL_law_385 ⟨by omega, by omega⟩) hP hD hS hA (fun r9 w1 H locs hq hP hD hS => ?_)
  obtain ⟨z2, q2, ⟨hz1, hz0, hz2, hz3⟩, rfl, hz4⟩ := hq
  have hP : va_P g.1 vwCl (([(ua, .inr (1, [.ref ar, .int (nI cnt)])), (ar, .inl (g.2.2.1, 6, .inr (.inr (.inr (.inr rows))))), (co, .inl (g.2.1, 6, .inl cs)), (mo, .inl (g.2.1, 6, .inl (upd ms j (nI ((zz j).1 + (1 + t))))))] ++ (zLs g cnt aa rr ff (va_up zz j z2) (va_up qq j q2)))) H := hP
  have hD : va_D (fun q : Nat => s.heap.size ≤ q) (([(ua, .inr (1, [.ref ar, .int (nI cnt)])), (ar, .inl (g.2.2.1, 6, .inr (.inr (.inr (.inr rows))))), (co, .inl (g.2.1, 6, .inl cs)), (mo, .inl (g.2.1, 6, .inl (upd ms j (nI ((zz j).1 + (1 + t))))))] ++ (zLs g cnt aa rr ff (va_up zz j z2) (va_up qq j q2)))) := hD
  have hI2 := hI.up (ms' := upd ms j (nI ((zz j).1 + (1 + t)))) hz2 hz4 hz3 (Nat.le_refl rv) i2 ((z_upd_s _ _ _).trans (by rw [hz1])) (fun i h => z_upd_n _ _ h)
  refine lv_pop hx hb dL_law_388 rfl ?_
  refine lv_aload_n hx hb dL_law_389 rfl (lv_at hl 2 rfl) ?_
  refine lv_iload hx hb dL_law_390 (lv_at hl 9 rfl) ?_
  refine z_ai0 (wc := ([(ua, .inr (1, [.ref ar, .int (nI cnt)])), (ar, .inl (g.2.2.1, 6, .inr (.inr (.inr (.inr rows))))), (co, .inl (g.2.1, 6, .inl cs)), (mo, .inl (g.2.1, 6, .inl (upd ms j (nI ((zz j).1 + (1 + t))))))] ++ (zLs g cnt aa rr ff (va_up zz j z2) (va_up qq j q2)))) (va_runV (As := [.int (nI j)]) (rest := []) ⟨hx, hb, hml, hown, hts⟩ (K_toCome l hst g ua ar co mo cnt rows cs (upd ms j (nI ((zz j).1 + (1 + t)))) aa rr ff (va_up zz j z2) (va_up qq j q2) j hj hI2 H.size _ rfl) (cwV 1 hts gL_law_X1_toCome rfl rfl rfl (by decide +kernel) ⟨Nat.le_of_ble_eq_true rfl, Nat.le_of_ble_eq_true rfl⟩) (zpreXV0 (wc := ([(ua, .inr (1, [.ref ar, .int (nI cnt)])), (ar, .inl (g.2.2.1, 6, .inr (.inr (.inr (.inr rows))))), (co, .inl (g.2.1, 6, .inl cs)), (mo, .inl (g.2.1, 6, .inl (upd ms j (nI ((zz j).1 + (1 + t))))))] ++ (zLs g cnt aa rr ff (va_up zz j z2) (va_up qq j q2)))) (q0 := 0) (ci := 1) (T := TX1) (N := 2) hK hP hD hS hA hX rfl rfl) rfl rfl hl.1 rfl (lv_room (Nat.le_of_ble_eq_true rfl)) dL_law_392 ⟨by omega, by omega⟩) hP hD hS hA (fun r9 w1 H locs hq hP hD hS => ?_)
  obtain ⟨rfl, rfl⟩ := hq
  have hP : va_P g.1 vwCl (([(ua, .inr (1, [.ref ar, .int (nI cnt)])), (ar, .inl (g.2.2.1, 6, .inr (.inr (.inr (.inr rows))))), (co, .inl (g.2.1, 6, .inl cs)), (mo, .inl (g.2.1, 6, .inl (upd ms j (nI ((zz j).1 + (1 + t))))))] ++ (zLs g cnt aa rr ff (va_up zz j z2) (va_up qq j q2)))) H := hP
  have hD : va_D (fun q : Nat => s.heap.size ≤ q) (([(ua, .inr (1, [.ref ar, .int (nI cnt)])), (ar, .inl (g.2.2.1, 6, .inr (.inr (.inr (.inr rows))))), (co, .inl (g.2.1, 6, .inl cs)), (mo, .inl (g.2.1, 6, .inl (upd ms j (nI ((zz j).1 + (1 + t))))))] ++ (zLs g cnt aa rr ff (va_up zz j z2) (va_up qq j q2)))) := hD
  refine zi (y := nI ((zz j).1 + (1 + t) - (zz j).2.1)) (by rw [va_up_self, hz1, hz0]) ?_
  refine lv_iload hx hb dL_law_395 (lv_at hl 10 rfl) ?_
  refine lv_iload hx hb dL_law_397 (lv_at hl 0 rfl) ?_
  refine z_iadd hx hb dL_law_399 ?_
  refine z_icmp_eq (tgt := 405) hx hb dL_law_400 (by decide) (by omega) (by omega) (fun he => ?_) (fun he => ?_)
  · refine lv_goto (tgt := 541) hx hb dL_law_405 (by decide) ?_
    refine W.widen (k := cN) (n := sN) (by omega) (by omega) ?_
    exact nx cnt rv rows cs (upd ms j (nI ((zz j).1 + (1 + t)))) aa rr ff (va_up zz j z2) (va_up qq j q2) H _ ls hI2 hP hD hS (lv_sub hl [1, 2, 3, 4, 5, 6, 7] rfl)
  · exact absurd (by omega) he

set_option maxHeartbeats 4000000 in
set_option maxRecDepth 100000 in
theorem L_short {j : Nat} (hst : l.stackTraces = false) (hL : L ≤ 260) (C0 : lw_At p s m meth c b L xs) (hK : zK g s) (hX : zX (fun q : Nat => s.heap.size ≤ q) s s.heap) (hcN : c0 + 90 ≤ cN) (hsN : s0 + 600 ≤ sN) (hcR : cN ≤ room_1.cells) (hsR : sN ≤ room_1.slots) (hI : zTw cnt rows cs ms aa rr ff zz qq rv) (hj : j < cnt) (hlt : 1 < (zz j).1 - (zz j).2.1) (hP : va_P g.1 vwCl (([(ua, .inr (1, [.ref ar, .int (nI cnt)])), (ar, .inl (g.2.2.1, 6, .inr (.inr (.inr (.inr rows))))), (co, .inl (g.2.1, 6, .inl cs)), (mo, .inl (g.2.1, 6, .inl ms))] ++ (zLs g cnt aa rr ff zz qq))) H) (hD : va_D (fun q : Nat => s.heap.size ≤ q) (([(ua, .inr (1, [.ref ar, .int (nI cnt)])), (ar, .inl (g.2.2.1, 6, .inr (.inr (.inr (.inr rows))))), (co, .inl (g.2.1, 6, .inl cs)), (mo, .inl (g.2.1, 6, .inl ms))] ++ (zLs g cnt aa rr ff zz qq)))) (hS : va_S (fun q : Nat => s.heap.size ≤ q) s.heap H locs) (hl : lv_has ls 14 [(0, .ref b), (1, .ref ua), (2, .ref co), (3, .ref mo), (4, .int (nI cnt)), (5, .int (nI rv)), (6, .int (nI k)), (8, .int x8), (10, .int (nI j)), (11, .int (nI ((zz j).1 - (zz j).2.1)))]) (nx : zNx p l e s m below meth c Q g b ua ar co mo k cN sN 541) : W p l e room_1 s m #[Value.ref b] below meth c H locs c0 s0 Q (F0 m 420 ls []) := by
  obtain ⟨hx, hb, hr, hml, hown, hts0, hXs, hbl, hlocks, hgv⟩ := id C0
  have hown : s.vm.findClass RL = some m.cls := hown
  have hts : ∀ w ∈ wsL_law, w.before #[Value.ref b] s = true := fun w h => hts0 w (wsL_law_in w h)
  have hA : ∀ q : Nat, s.heap.size ≤ q → (fun q : Nat => s.heap.size ≤ q) q := fun _ h => h
  have hbA : ¬ (fun q : Nat => s.heap.size ≤ q) b := Nat.not_le.mpr hbl
  obtain ⟨i1, i2, i3, i4, i5, i6, i7, i8⟩ := id hI
  obtain ⟨t1, t2, t3⟩ := zInv_T (i5 j hj)
  refine lv_aload_n hx hb dL_law_420 rfl (lv_at hl 1 rfl) ?_
  refine lv_iload hx hb dL_law_421 (lv_at hl 8 rfl) ?_
  refine z_ai0 (wc := ([(ua, .inr (1, [.ref ar, .int (nI cnt)])), (ar, .inl (g.2.2.1, 6, .inr (.inr (.inr (.inr rows))))), (co, .inl (g.2.1, 6, .inl cs)), (mo, .inl (g.2.1, 6, .inl ms))] ++ (zLs g cnt aa rr ff zz qq))) (va_runV (As := [.int (nI j)]) (rest := []) ⟨hx, hb, hml, hown, hts⟩ (K_gains l hst g ua ar co mo cnt rows cs ms aa rr ff zz qq j hj hI H.size _ rfl) (cwV 1 hts gL_law_X1_gains rfl rfl rfl (by decide +kernel) ⟨Nat.le_of_ble_eq_true rfl, Nat.le_of_ble_eq_true rfl⟩) (zpreXV0 (wc := ([(ua, .inr (1, [.ref ar, .int (nI cnt)])), (ar, .inl (g.2.2.1, 6, .inr (.inr (.inr (.inr rows))))), (co, .inl (g.2.1, 6, .inl cs)), (mo, .inl (g.2.1, 6, .inl ms))] ++ (zLs g cnt aa rr ff zz qq))) (q0 := 0) (ci := 1) (T := TX1) (N := 2) hK hP hD hS hA hX rfl rfl) rfl rfl hl.1 rfl (lv_room (Nat.le_of_ble_eq_true rfl)) dL_law_423 ⟨by omega, by omega⟩) hP hD hS hA (fun r9 w1 H locs hq hP hD hS => ?_)
  obtain ⟨rfl, rfl⟩ := hq
  have hP : va_P g.1 vwCl (([(ua, .inr (1, [.ref ar, .int (nI cnt)])), (ar, .inl (g.2.2.1, 6, .inr (.inr (.inr (.inr rows))))), (co, .inl (g.2.1, 6, .inl cs)), (mo, .inl (g.2.1, 6, .inl ms))] ++ (zLs g cnt aa rr ff zz qq))) H := hP
  have hD : va_D (fun q : Nat => s.heap.size ≤ q) (([(ua, .inr (1, [.ref ar, .int (nI cnt)])), (ar, .inl (g.2.2.1, 6, .inr (.inr (.inr (.inr rows))))), (co, .inl (g.2.1, 6, .inl cs)), (mo, .inl (g.2.1, 6, .inl ms))] ++ (zLs g cnt aa rr ff zz qq))) := hD
  refine lv_istore (lv' := [(12, .int (zGA (zz j))), (0, .ref b), (1, .ref ua), (2, .ref co), (3, .ref mo), (4, .int (nI cnt)), (5, .int (nI rv)), (6, .int (nI k)), (8, .int x8), (10, .int (nI j)), (11, .int (nI ((zz j).1 - (zz j).2.1)))]) hx hb dL_law_426 hl (by decide) rfl (fun ls hl => ?_)
  refine lv_iconst (v := nI 1) hx hb dL_law_428 (by decide) ?_
  refine lv_iload hx hb dL_law_429 (lv_at hl 8 rfl) ?_
  refine lv_iload hx hb dL_law_431 (lv_at hl 10 rfl) ?_
  refine lv_iconst (v := nI 1) hx hb dL_law_433 (by decide) ?_
  refine z_isub hx hb dL_law_434 (by omega) ?_
  refine z_ai (wa := []) (wc := []) (wb := ([(ua, .inr (1, [.ref ar, .int (nI cnt)])), (ar, .inl (g.2.2.1, 6, .inr (.inr (.inr (.inr rows))))), (co, .inl (g.2.1, 6, .inl cs)), (mo, .inl (g.2.1, 6, .inl ms))] ++ (zLs g cnt aa rr ff zz qq))) (va_runS (As := [.int x8, .int (nI (((zz j).1 - (zz j).2.1) - 1))]) (rest := [.int (nI 1)]) ⟨hx, hb, hml, hown, hts⟩ (c_low l g x8 (((zz j).1 - (zz j).2.1) - 1) (by omega) (by omega) H.size _ rfl) (va_cwS 2 hts gL_law_L_low rfl rfl rfl (by decide +kernel) ⟨Nat.le_of_ble_eq_true rfl, Nat.le_of_ble_eq_true rfl⟩) (zpreS (wa := []) (wc := []) (wb := ([(ua, .inr (1, [.ref ar, .int (nI cnt)])), (ar, .inl (g.2.2.1, 6, .inr (.inr (.inr (.inr rows))))), (co, .inl (g.2.1, 6, .inl cs)), (mo, .inl (g.2.1, 6, .inl ms))] ++ (zLs g cnt aa rr ff zz qq))) hK hP hD) rfl rfl hl.1 rfl (lv_room (Nat.le_of_ble_eq_true rfl)) dL_law_435 ⟨by omega, by omega⟩) hP hD hS hA (fun r9 w1 H locs hq hP hD hS => ?_)
  obtain ⟨⟨t, ht, rfl⟩, rfl⟩ := hq
  have hP : va_P g.1 vwCl (([(ua, .inr (1, [.ref ar, .int (nI cnt)])), (ar, .inl (g.2.2.1, 6, .inr (.inr (.inr (.inr rows))))), (co, .inl (g.2.1, 6, .inl cs)), (mo, .inl (g.2.1, 6, .inl ms))] ++ (zLs g cnt aa rr ff zz qq))) H := hP
  have hD : va_D (fun q : Nat => s.heap.size ≤ q) (([(ua, .inr (1, [.ref ar, .int (nI cnt)])), (ar, .inl (g.2.2.1, 6, .inr (.inr (.inr (.inr rows))))), (co, .inl (g.2.1, 6, .inl cs)), (mo, .inl (g.2.1, 6, .inl ms))] ++ (zLs g cnt aa rr ff zz qq))) := hD
  refine z_iadd hx hb dL_law_438 ?_
  refine lv_istore (lv' := [(13, .int (nI (1 + t))), (12, .int (zGA (zz j))), (0, .ref b), (1, .ref ua), (2, .ref co), (3, .ref mo), (4, .int (nI cnt)), (5, .int (nI rv)), (6, .int (nI k)), (8, .int x8), (10, .int (nI j)), (11, .int (nI ((zz j).1 - (zz j).2.1)))]) hx hb dL_law_439 hl (by decide) rfl (fun ls hl => ?_)
  refine lv_aload_n hx hb dL_law_441 rfl (lv_at hl 5 rfl) ?_
  refine lv_iload hx hb dL_law_442 (lv_at hl 10 rfl) ?_
  refine lv_dup2_11 hx hb dL_law_444 rfl rfl ?_
  refine z_iald hx hb hK hP 3 0 rfl rfl (by omega) (by decide) dL_law_445 ?_
  refine zi (y := nI ((zz j).1)) (i8 j hj) ?_
  refine lv_iload hx hb dL_law_446 (lv_at hl 0 rfl) ?_
  refine lv_bipush (v := nI 60) hx hb dL_law_448 (by decide) ?_
  refine z_icmp_le (tgt := 457) hx hb dL_law_450 (by decide) (by omega) (by omega) (fun hd => ?_) (fun hd => ?_)
  · refine lv_iload hx hb dL_law_457 (lv_at hl 0 rfl) ?_
    refine z_isub hx hb dL_law_459 (by omega) ?_
    refine z_iast hx hb hK hP hD hS 3 0 rfl rfl (by omega) (by decide) dL_law_460 (fun H locs hP hD hS => ?_)
    have hP : va_P g.1 vwCl (([(ua, .inr (1, [.ref ar, .int (nI cnt)])), (ar, .inl (g.2.2.1, 6, .inr (.inr (.inr (.inr rows))))), (co, .inl (g.2.1, 6, .inl cs)), (mo, .inl (g.2.1, 6, .inl (upd ms j (nI (((zz j).1) - (1 + t))))))] ++ (zLs g cnt aa rr ff zz qq))) H := hP
    have hD : va_D (fun q : Nat => s.heap.size ≤ q) (([(ua, .inr (1, [.ref ar, .int (nI cnt)])), (ar, .inl (g.2.2.1, 6, .inr (.inr (.inr (.inr rows))))), (co, .inl (g.2.1, 6, .inl cs)), (mo, .inl (g.2.1, 6, .inl (upd ms j (nI (((zz j).1) - (1 + t))))))] ++ (zLs g cnt aa rr ff zz qq))) := hD
    refine lv_iload hx hb dL_law_461 (lv_at hl 0 rfl) ?_
    refine lv_bipush (v := nI 60) hx hb dL_law_463 (by decide) ?_
    refine z_icmp_gt (tgt := 490) hx hb dL_law_465 (by decide) (by omega) (by omega) (fun h60 => ?_) (fun h60 => ?_)
    · exact absurd hd (by omega)
    · refine lv_aload_n hx hb dL_law_468 rfl (lv_at hl 3 rfl) ?_
      refine lv_iload hx hb dL_law_469 (lv_at hl 10 rfl) ?_
      refine lv_iload hx hb dL_law_471 (lv_at hl 0 rfl) ?_
      refine z_ai0 (wc := ([(ua, .inr (1, [.ref ar, .int (nI cnt)])), (ar, .inl (g.2.2.1, 6, .inr (.inr (.inr (.inr rows))))), (co, .inl (g.2.1, 6, .inl cs)), (mo, .inl (g.2.1, 6, .inl (upd ms j (nI (((zz j).1) - (1 + t))))))] ++ (zLs g cnt aa rr ff zz qq))) (va_runV (As := [.int (nI j), .int (nI (1 + t))]) (rest := []) ⟨hx, hb, hml, hown, hts⟩ (K_shorten l hst g ua ar co mo cnt rows cs (upd ms j (nI ((zz j).1 - (1 + t)))) aa rr ff zz qq (rv := rv) j (1 + t) hj hI (by omega) (by omega) (by omega) H.size _ rfl) (cwV 2 hts gL_law_X1_shorten rfl rfl rfl (by decide +kernel) ⟨Nat.le_of_ble_eq_true rfl, Nat.le_of_ble_eq_true rfl⟩) (zpreXV0 (wc := ([(ua, .inr (1, [.ref ar, .int (nI cnt)])), (ar, .inl (g.2.2.1, 6, .inr (.inr (.inr (.inr rows))))), (co, .inl (g.2.1, 6, .inl cs)), (mo, .inl (g.2.1, 6, .inl (upd ms j (nI (((zz j).1) - (1 + t))))))] ++ (zLs g cnt aa rr ff zz qq))) (q0 := 0) (ci := 1) (T := TX1) (N := 2) hK hP hD hS hA hX rfl rfl) rfl rfl hl.1 rfl (lv_room (Nat.le_of_ble_eq_true rfl)) dL_law_473 ⟨by omega, by omega⟩) hP hD hS hA (fun r9 w1 H locs hq hP hD hS => ?_)
      obtain ⟨z2, q2, ⟨rfl, hz1, hz2, hz3⟩, rfl, hz4⟩ := hq
      have hP : va_P g.1 vwCl (([(ua, .inr (1, [.ref ar, .int (nI cnt)])), (ar, .inl (g.2.2.1, 6, .inr (.inr (.inr (.inr rows))))), (co, .inl (g.2.1, 6, .inl cs)), (mo, .inl (g.2.1, 6, .inl (upd ms j (nI ((zz j).1 - (1 + t))))))] ++ (zLs g cnt aa rr ff (va_up zz j z2) (va_up qq j q2)))) H := hP
      have hD : va_D (fun q : Nat => s.heap.size ≤ q) (([(ua, .inr (1, [.ref ar, .int (nI cnt)])), (ar, .inl (g.2.2.1, 6, .inr (.inr (.inr (.inr rows))))), (co, .inl (g.2.1, 6, .inl cs)), (mo, .inl (g.2.1, 6, .inl (upd ms j (nI ((zz j).1 - (1 + t))))))] ++ (zLs g cnt aa rr ff (va_up zz j z2) (va_up qq j q2)))) := hD
      have hI2 := hI.up (ms' := upd ms j (nI ((zz j).1 - (1 + t)))) hz2 hz4 hz3 (Nat.le_refl rv) i2 ((z_upd_s _ _ _).trans (by rw [hz1])) (fun i h => z_upd_n _ _ h)
      refine lv_aload_n hx hb dL_law_476 rfl (lv_at hl 3 rfl) ?_
      refine lv_iload hx hb dL_law_477 (lv_at hl 10 rfl) ?_
      refine z_ai0 (wc := ([(ua, .inr (1, [.ref ar, .int (nI cnt)])), (ar, .inl (g.2.2.1, 6, .inr (.inr (.inr (.inr rows))))), (co, .inl (g.2.1, 6, .inl cs)), (mo, .inl (g.2.1, 6, .inl (upd ms j (nI ((zz j).1 - (1 + t))))))] ++ (zLs g cnt aa rr ff (va_up zz j z2) (va_up qq j q2)))) (va_runV (As := [.int (nI j)]) (rest := [.int (zGA z2 - zGA (zz j))]) ⟨hx, hb, hml, hown, hts⟩ (K_gains l hst g ua ar co mo cnt rows cs (upd ms j (nI ((zz j).1 - (1 + t)))) aa rr ff (va_up zz j z2) (va_up qq j q2) j hj hI2 H.size _ rfl) (cwV 1 hts gL_law_X1_gains rfl rfl rfl (by decide +kernel) ⟨Nat.le_of_ble_eq_true rfl, Nat.le_of_ble_eq_true rfl⟩) (zpreXV0 (wc := ([(ua, .inr (1, [.ref ar, .int (nI cnt)])), (ar, .inl (g.2.2.1, 6, .inr (.inr (.inr (.inr rows))))), (co, .inl (g.2.1, 6, .inl cs)), (mo, .inl (g.2.1, 6, .inl (upd ms j (nI ((zz j).1 - (1 + t))))))] ++ (zLs g cnt aa rr ff (va_up zz j z2) (va_up qq j q2)))) (q0 := 0) (ci := 1) (T := TX1) (N := 2) hK hP hD hS hA hX rfl rfl) rfl rfl hl.1 rfl (lv_room (Nat.le_of_ble_eq_true rfl)) dL_law_479 ⟨by omega, by omega⟩) hP hD hS hA (fun r9 w1 H locs hq hP hD hS => ?_)
      obtain ⟨rfl, rfl⟩ := hq
      have hP : va_P g.1 vwCl (([(ua, .inr (1, [.ref ar, .int (nI cnt)])), (ar, .inl (g.2.2.1, 6, .inr (.inr (.inr (.inr rows))))), (co, .inl (g.2.1, 6, .inl cs)), (mo, .inl (g.2.1, 6, .inl (upd ms j (nI ((zz j).1 - (1 + t))))))] ++ (zLs g cnt aa rr ff (va_up zz j z2) (va_up qq j q2)))) H := hP
      have hD : va_D (fun q : Nat => s.heap.size ≤ q) (([(ua, .inr (1, [.ref ar, .int (nI cnt)])), (ar, .inl (g.2.2.1, 6, .inr (.inr (.inr (.inr rows))))), (co, .inl (g.2.1, 6, .inl cs)), (mo, .inl (g.2.1, 6, .inl (upd ms j (nI ((zz j).1 - (1 + t))))))] ++ (zLs g cnt aa rr ff (va_up zz j z2) (va_up qq j q2)))) := hD
      refine zi (y := zGA z2) (by rw [va_up_self]) ?_
      refine lv_iload hx hb dL_law_482 (lv_at hl 1 rfl) ?_
      refine lv_isub hx hb dL_law_484 ?_
      refine lv_icmp_eq (tgt := 490) hx hb dL_law_485 (by decide) (fun he => ?_) (fun he => ?_)
      · refine lv_goto (tgt := 541) hx hb dL_law_490 (by decide) ?_
        refine W.widen (k := cN) (n := sN) (by omega) (by omega) ?_
        exact nx cnt rv rows cs (upd ms j (nI ((zz j).1 - (1 + t)))) aa rr ff (va_up zz j z2) (va_up qq j q2) H _ ls hI2 hP hD hS (lv_sub hl [2, 3, 4, 5, 6, 7, 8] rfl)
      · exact absurd rfl he
  · refine lv_iconst (v := nI 0) hx hb dL_law_453 (by decide) ?_
    refine lv_goto (tgt := 459) hx hb dL_law_454 (by decide) ?_
    refine z_isub hx hb dL_law_459 (by omega) ?_
    refine z_iast hx hb hK hP hD hS 3 0 rfl rfl (by omega) (by decide) dL_law_460 (fun H locs hP hD hS => ?_)
    have hP : va_P g.1 vwCl (([(ua, .inr (1, [.ref ar, .int (nI cnt)])), (ar, .inl (g.2.2.1, 6, .inr (.inr (.inr (.inr rows))))), (co, .inl (g.2.1, 6, .inl cs)), (mo, .inl (g.2.1, 6, .inl (upd ms j (nI (((zz j).1) - 0)))))] ++ (zLs g cnt aa rr ff zz qq))) H := hP
    have hD : va_D (fun q : Nat => s.heap.size ≤ q) (([(ua, .inr (1, [.ref ar, .int (nI cnt)])), (ar, .inl (g.2.2.1, 6, .inr (.inr (.inr (.inr rows))))), (co, .inl (g.2.1, 6, .inl cs)), (mo, .inl (g.2.1, 6, .inl (upd ms j (nI (((zz j).1) - 0)))))] ++ (zLs g cnt aa rr ff zz qq))) := hD
    refine lv_iload hx hb dL_law_461 (lv_at hl 0 rfl) ?_
    refine lv_bipush (v := nI 60) hx hb dL_law_463 (by decide) ?_
    refine z_icmp_gt (tgt := 490) hx hb dL_law_465 (by decide) (by omega) (by omega) (fun h60 => ?_) (fun h60 => ?_)
    · refine lv_goto (tgt := 541) hx hb dL_law_490 (by decide) ?_
      have hI2 := hI.up (ms' := upd ms j (nI ((zz j).1 - 0))) (z' := zz j) (q' := qq j) (i5 j hj) (i6 j hj) (i7 j hj) (Nat.le_refl rv) i2 (z_upd_s _ _ _) (fun i h => z_upd_n _ _ h)
      rw [z_upid, z_upid] at hI2
      refine W.widen (k := cN) (n := sN) (by omega) (by omega) ?_
      exact nx cnt rv rows cs (upd ms j (nI ((zz j).1 - 0))) aa rr ff zz qq H _ ls hI2 hP hD hS (lv_sub hl [2, 3, 4, 5, 6, 7, 8] rfl)
    · exact absurd h60 (by omega)

set_option maxHeartbeats 4000000 in
set_option maxRecDepth 100000 in
theorem L_cut {j : Nat} (hst : l.stackTraces = false) (hL : L ≤ 260) (C0 : lw_At p s m meth c b L xs) (hK : zK g s) (hX : zX (fun q : Nat => s.heap.size ≤ q) s s.heap) (hcN : c0 + 90 ≤ cN) (hsN : s0 + 600 ≤ sN) (hcR : cN ≤ room_1.cells) (hsR : sN ≤ room_1.slots) (hI : zTw cnt rows cs ms aa rr ff zz qq rv) (hj : j < cnt) (hlt : (zz j).2.1 < (zz j).1) (hP : va_P g.1 vwCl (([(ua, .inr (1, [.ref ar, .int (nI cnt)])), (ar, .inl (g.2.2.1, 6, .inr (.inr (.inr (.inr rows))))), (co, .inl (g.2.1, 6, .inl cs)), (mo, .inl (g.2.1, 6, .inl ms))] ++ (zLs g cnt aa rr ff zz qq))) H) (hD : va_D (fun q : Nat => s.heap.size ≤ q) (([(ua, .inr (1, [.ref ar, .int (nI cnt)])), (ar, .inl (g.2.2.1, 6, .inr (.inr (.inr (.inr rows))))), (co, .inl (g.2.1, 6, .inl cs)), (mo, .inl (g.2.1, 6, .inl ms))] ++ (zLs g cnt aa rr ff zz qq)))) (hS : va_S (fun q : Nat => s.heap.size ≤ q) s.heap H locs) (hl : lv_has ls 14 [(0, .ref b), (1, .ref ua), (2, .ref co), (3, .ref mo), (4, .int (nI cnt)), (5, .int (nI rv)), (6, .int (nI k)), (8, .int x8), (10, .int (nI j)), (11, .int (nI ((zz j).1 - (zz j).2.1)))]) (nx : zNx p l e s m below meth c Q g b ua ar co mo k cN sN 541) : W p l e room_1 s m #[Value.ref b] below meth c H locs c0 s0 Q (F0 m 504 ls []) := by
  obtain ⟨hx, hb, hr, hml, hown, hts0, hXs, hbl, hlocks, hgv⟩ := id C0
  have hown : s.vm.findClass RL = some m.cls := hown
  have hts : ∀ w ∈ wsL_law, w.before #[Value.ref b] s = true := fun w h => hts0 w (wsL_law_in w h)
  have hA : ∀ q : Nat, s.heap.size ≤ q → (fun q : Nat => s.heap.size ≤ q) q := fun _ h => h
  have hbA : ¬ (fun q : Nat => s.heap.size ≤ q) b := Nat.not_le.mpr hbl
  obtain ⟨i1, i2, i3, i4, i5, i6, i7, i8⟩ := id hI
  refine lv_aload_n hx hb dL_law_504 rfl (lv_at hl 1 rfl) ?_
  refine lv_iload hx hb dL_law_505 (lv_at hl 8 rfl) ?_
  refine z_ai0 (wc := ([(ua, .inr (1, [.ref ar, .int (nI cnt)])), (ar, .inl (g.2.2.1, 6, .inr (.inr (.inr (.inr rows))))), (co, .inl (g.2.1, 6, .inl cs)), (mo, .inl (g.2.1, 6, .inl ms))] ++ (zLs g cnt aa rr ff zz qq))) (va_runV (As := [.int (nI j)]) (rest := []) ⟨hx, hb, hml, hown, hts⟩ (K_gains l hst g ua ar co mo cnt rows cs ms aa rr ff zz qq j hj hI H.size _ rfl) (cwV 1 hts gL_law_X1_gains rfl rfl rfl (by decide +kernel) ⟨Nat.le_of_ble_eq_true rfl, Nat.le_of_ble_eq_true rfl⟩) (zpreXV0 (wc := ([(ua, .inr (1, [.ref ar, .int (nI cnt)])), (ar, .inl (g.2.2.1, 6, .inr (.inr (.inr (.inr rows))))), (co, .inl (g.2.1, 6, .inl cs)), (mo, .inl (g.2.1, 6, .inl ms))] ++ (zLs g cnt aa rr ff zz qq))) (q0 := 0) (ci := 1) (T := TX1) (N := 2) hK hP hD hS hA hX rfl rfl) rfl rfl hl.1 rfl (lv_room (Nat.le_of_ble_eq_true rfl)) dL_law_507 ⟨by omega, by omega⟩) hP hD hS hA (fun r9 w1 H locs hq hP hD hS => ?_)
  obtain ⟨rfl, rfl⟩ := hq
  have hP : va_P g.1 vwCl (([(ua, .inr (1, [.ref ar, .int (nI cnt)])), (ar, .inl (g.2.2.1, 6, .inr (.inr (.inr (.inr rows))))), (co, .inl (g.2.1, 6, .inl cs)), (mo, .inl (g.2.1, 6, .inl ms))] ++ (zLs g cnt aa rr ff zz qq))) H := hP
  have hD : va_D (fun q : Nat => s.heap.size ≤ q) (([(ua, .inr (1, [.ref ar, .int (nI cnt)])), (ar, .inl (g.2.2.1, 6, .inr (.inr (.inr (.inr rows))))), (co, .inl (g.2.1, 6, .inl cs)), (mo, .inl (g.2.1, 6, .inl ms))] ++ (zLs g cnt aa rr ff zz qq))) := hD
  refine lv_istore (lv' := [(12, .int (zGA (zz j))), (0, .ref b), (1, .ref ua), (2, .ref co), (3, .ref mo), (4, .int (nI cnt)), (5, .int (nI rv)), (6, .int (nI k)), (8, .int x8), (10, .int (nI j)), (11, .int (nI ((zz j).1 - (zz j).2.1)))]) hx hb dL_law_510 hl (by decide) rfl (fun ls hl => ?_)
  refine lv_aload_n hx hb dL_law_512 rfl (lv_at hl 2 rfl) ?_
  refine lv_iload hx hb dL_law_513 (lv_at hl 9 rfl) ?_
  refine lv_iconst (v := nI 1) hx hb dL_law_515 (by decide) ?_
  refine lv_iload hx hb dL_law_516 (lv_at hl 8 rfl) ?_
  refine lv_bipush (v := nI 40) hx hb dL_law_518 (by decide) ?_
  refine z_ai (wa := []) (wc := []) (wb := ([(ua, .inr (1, [.ref ar, .int (nI cnt)])), (ar, .inl (g.2.2.1, 6, .inr (.inr (.inr (.inr rows))))), (co, .inl (g.2.1, 6, .inl cs)), (mo, .inl (g.2.1, 6, .inl ms))] ++ (zLs g cnt aa rr ff zz qq))) (va_runS (As := [.int x8, .int (nI 40)]) (rest := [.int (nI 1), .int (nI j), .ref ua]) ⟨hx, hb, hml, hown, hts⟩ (c_low l g x8 40 (by decide) (by decide) H.size _ rfl) (va_cwS 2 hts gL_law_L_low rfl rfl rfl (by decide +kernel) ⟨Nat.le_of_ble_eq_true rfl, Nat.le_of_ble_eq_true rfl⟩) (zpreS (wa := []) (wc := []) (wb := ([(ua, .inr (1, [.ref ar, .int (nI cnt)])), (ar, .inl (g.2.2.1, 6, .inr (.inr (.inr (.inr rows))))), (co, .inl (g.2.1, 6, .inl cs)), (mo, .inl (g.2.1, 6, .inl ms))] ++ (zLs g cnt aa rr ff zz qq))) hK hP hD) rfl rfl hl.1 rfl (lv_room (Nat.le_of_ble_eq_true rfl)) dL_law_520 ⟨by omega, by omega⟩) hP hD hS hA (fun r9 w1 H locs hq hP hD hS => ?_)
  obtain ⟨⟨t, ht, rfl⟩, rfl⟩ := hq
  have hP : va_P g.1 vwCl (([(ua, .inr (1, [.ref ar, .int (nI cnt)])), (ar, .inl (g.2.2.1, 6, .inr (.inr (.inr (.inr rows))))), (co, .inl (g.2.1, 6, .inl cs)), (mo, .inl (g.2.1, 6, .inl ms))] ++ (zLs g cnt aa rr ff zz qq))) H := hP
  have hD : va_D (fun q : Nat => s.heap.size ≤ q) (([(ua, .inr (1, [.ref ar, .int (nI cnt)])), (ar, .inl (g.2.2.1, 6, .inr (.inr (.inr (.inr rows))))), (co, .inl (g.2.1, 6, .inl cs)), (mo, .inl (g.2.1, 6, .inl ms))] ++ (zLs g cnt aa rr ff zz qq))) := hD
  refine z_iadd hx hb dL_law_523 ?_
  refine z_ai0 (wc := ([(ua, .inr (1, [.ref ar, .int (nI cnt)])), (ar, .inl (g.2.2.1, 6, .inr (.inr (.inr (.inr rows))))), (co, .inl (g.2.1, 6, .inl cs)), (mo, .inl (g.2.1, 6, .inl ms))] ++ (zLs g cnt aa rr ff zz qq))) (va_runV (As := [.int (nI j), .int (nI (1 + t))]) (rest := []) ⟨hx, hb, hml, hown, hts⟩ (K_cut l hst g ua ar co mo cnt rows cs ms aa rr ff zz qq j (1 + t) hj hI (by omega) (by omega) hlt H.size _ rfl) (cwV 2 hts gL_law_X1_cut rfl rfl rfl (by decide +kernel) ⟨Nat.le_of_ble_eq_true rfl, Nat.le_of_ble_eq_true rfl⟩) (zpreXV0 (wc := ([(ua, .inr (1, [.ref ar, .int (nI cnt)])), (ar, .inl (g.2.2.1, 6, .inr (.inr (.inr (.inr rows))))), (co, .inl (g.2.1, 6, .inl cs)), (mo, .inl (g.2.1, 6, .inl ms))] ++ (zLs g cnt aa rr ff zz qq))) (q0 := 0) (ci := 1) (T := TX1) (N := 2) hK hP hD hS hA hX rfl rfl) rfl rfl hl.1 rfl (lv_room (Nat.le_of_ble_eq_true rfl)) dL_law_524 ⟨by omega, by omega⟩) hP hD hS hA (fun r9 w1 H locs hq hP hD hS => ?_)
  obtain ⟨z2, q2, ⟨rfl, hz1, hz2, hz3⟩, rfl, hz4⟩ := hq
  have hP : va_P g.1 vwCl (([(ua, .inr (1, [.ref ar, .int (nI cnt)])), (ar, .inl (g.2.2.1, 6, .inr (.inr (.inr (.inr rows))))), (co, .inl (g.2.1, 6, .inl cs)), (mo, .inl (g.2.1, 6, .inl ms))] ++ (zLs g cnt aa rr ff (va_up zz j z2) (va_up qq j q2)))) H := hP
  have hD : va_D (fun q : Nat => s.heap.size ≤ q) (([(ua, .inr (1, [.ref ar, .int (nI cnt)])), (ar, .inl (g.2.2.1, 6, .inr (.inr (.inr (.inr rows))))), (co, .inl (g.2.1, 6, .inl cs)), (mo, .inl (g.2.1, 6, .inl ms))] ++ (zLs g cnt aa rr ff (va_up zz j z2) (va_up qq j q2)))) := hD
  have hI2 := hI.up hz2 hz4 hz3 (Nat.le_refl rv) i2 ((i8 j hj).trans (by rw [hz1])) (fun i _ => rfl)
  refine lv_aload_n hx hb dL_law_527 rfl (lv_at hl 2 rfl) ?_
  refine lv_iload hx hb dL_law_528 (lv_at hl 9 rfl) ?_
  refine z_ai0 (wc := ([(ua, .inr (1, [.ref ar, .int (nI cnt)])), (ar, .inl (g.2.2.1, 6, .inr (.inr (.inr (.inr rows))))), (co, .inl (g.2.1, 6, .inl cs)), (mo, .inl (g.2.1, 6, .inl ms))] ++ (zLs g cnt aa rr ff (va_up zz j z2) (va_up qq j q2)))) (va_runV (As := [.int (nI j)]) (rest := [.int (zGA z2 - zGA (zz j))]) ⟨hx, hb, hml, hown, hts⟩ (K_gains l hst g ua ar co mo cnt rows cs ms aa rr ff (va_up zz j z2) (va_up qq j q2) j hj hI2 H.size _ rfl) (cwV 1 hts gL_law_X1_gains rfl rfl rfl (by decide +kernel) ⟨Nat.le_of_ble_eq_true rfl, Nat.le_of_ble_eq_true rfl⟩) (zpreXV0 (wc := ([(ua, .inr (1, [.ref ar, .int (nI cnt)])), (ar, .inl (g.2.2.1, 6, .inr (.inr (.inr (.inr rows))))), (co, .inl (g.2.1, 6, .inl cs)), (mo, .inl (g.2.1, 6, .inl ms))] ++ (zLs g cnt aa rr ff (va_up zz j z2) (va_up qq j q2)))) (q0 := 0) (ci := 1) (T := TX1) (N := 2) hK hP hD hS hA hX rfl rfl) rfl rfl hl.1 rfl (lv_room (Nat.le_of_ble_eq_true rfl)) dL_law_530 ⟨by omega, by omega⟩) hP hD hS hA (fun r9 w1 H locs hq hP hD hS => ?_)
  obtain ⟨rfl, rfl⟩ := hq
  have hP : va_P g.1 vwCl (([(ua, .inr (1, [.ref ar, .int (nI cnt)])), (ar, .inl (g.2.2.1, 6, .inr (.inr (.inr (.inr rows))))), (co, .inl (g.2.1, 6, .inl cs)), (mo, .inl (g.2.1, 6, .inl ms))] ++ (zLs g cnt aa rr ff (va_up zz j z2) (va_up qq j q2)))) H := hP
  have hD : va_D (fun q : Nat => s.heap.size ≤ q) (([(ua, .inr (1, [.ref ar, .int (nI cnt)])), (ar, .inl (g.2.2.1, 6, .inr (.inr (.inr (.inr rows))))), (co, .inl (g.2.1, 6, .inl cs)), (mo, .inl (g.2.1, 6, .inl ms))] ++ (zLs g cnt aa rr ff (va_up zz j z2) (va_up qq j q2)))) := hD
  refine zi (y := zGA z2) (by rw [va_up_self]) ?_
  refine lv_iload hx hb dL_law_533 (lv_at hl 0 rfl) ?_
  refine lv_isub hx hb dL_law_535 ?_
  refine lv_icmp_eq (tgt := 541) hx hb dL_law_536 (by decide) (fun he => ?_) (fun he => ?_)
  · refine W.widen (k := cN) (n := sN) (by omega) (by omega) ?_
    exact nx cnt rv rows cs ms aa rr ff (va_up zz j z2) (va_up qq j q2) H _ ls hI2 hP hD hS (lv_sub hl [1, 2, 3, 4, 5, 6, 7] rfl)
  · exact absurd rfl he

end ZLW
