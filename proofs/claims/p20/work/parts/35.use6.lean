/-! the class Usewise: made, and a lease added -/
section ZO
variable {p : Program} {l : Launch} {e : Env} {R : Room} {s : State} {m : MethodId} {args : Array Value} {below : List Frame} {meth : Method} {c : Code} {H : Heap} {locs : List Loc} {cells slots : Nat} {Q : State → Prop} {cc : ByteArray} {pc : Nat} {ls : Array Slot} {rest : List Value} {g : zG} {A : Nat → Prop} {ws : va_W}
theorem z_newQ {own : String} {index : Nat} (hx : p.tables.exec = Jvm.exec) (hb : c.code = cc) (hown : s.vm.findClass own = some m.cls) (hcl : (Cond.classLink own index "Usewise$Lease").before args s = true) (hao : va_AO "Usewise$Lease" s) (hK : zK g s) (hP : va_P g.1 vwCl ws H) (hD : va_D A ws) (hS : va_S A s.heap H locs) (hA : ∀ q, s.heap.size ≤ q → A q) {n : Nat} (hn : n ≤ 1000000) (hcells : cells + 1 ≤ R.cells) (hslots : slots + n ≤ R.slots) (d : decode cc pc = .ok (.anewarray index, 3))
    (kk : ∀ (q : Nat) (H1 : Heap), va_P g.1 vwCl (ws ++ [(q, .inl (g.2.2.1, n, .inr (.inr (.inr (.inr (fun _ => none))))))]) H1 → va_D A (ws ++ [(q, .inl (g.2.2.1, n, .inr (.inr (.inr (.inr (fun _ => none))))))]) → va_S A s.heap H1 locs → W p l e R s m args below meth c H1 locs (cells + 1) (slots + n) Q (F0 m (pc + 3) ls (.ref q :: rest))) : W p l e R s m args below meth c H locs cells slots Q (F0 m pc ls (.int (nI n) :: rest)) := by
  refine va_newq hx hb hown hcl hao hK hP hD hS hA (N' := n) (nI_pos (by omega)) (nI_clamp (by omega)) (by omega) hcells hslots d ?_
  intro q cA H1 hK2 hP2 hD2 hS2
  obtain ⟨-, -, -, -, -, h1⟩ := (hK2.2 3 (cA, .object "Usewise$Lease") rfl).2
  obtain ⟨-, -, -, -, -, h2⟩ := (hK.2 1 (g.2.2.1, .object "Usewise$Lease") rfl).2
  obtain rfl : cA = g.2.2.1 := Option.some.inj (h1.symm.trans h2)
  exact kk q H1 hP2 hD2 hS2
variable {D : va_G} {cl : List vw_C} {a : Nat} {tys : List (ClassId × FieldType)} {H0 : Heap}
theorem z_aast (hx : p.tables.exec = Jvm.exec) (hb : c.code = cc) (hK : va_K D cl tys s) (hP : va_P D cl ws H) (hD : va_D A ws) (hS : va_S A H0 H locs) (q0 t0 qk ci : Nat) {cA : ClassId} {r : vw_C} {n v i : Nat} {vs : List Value} {f : Nat → Option Nat} (ha : ws[q0]? = some (a, .inl (cA, n, .inr (.inr (.inr (.inr f)))))) (ht : tys[t0]? = some (cA, .object r.1)) (hv : ws[qk]? = some (v, .inr (ci, vs))) (hc : cl[ci]? = some r) (hi : i < n) (hn : n < 2 ^ 31) (d : decode cc pc = .ok (.aastore, 1))
    (kk : ∀ (H1 : Heap) (locs1 : List Loc), va_P D cl (ws.set q0 (a, .inl (cA, n, .inr (.inr (.inr (.inr (va_up f i (some v)))))))) H1 → va_D A (ws.set q0 (a, .inl (cA, n, .inr (.inr (.inr (.inr (va_up f i (some v)))))))) → va_S A H0 H1 locs1 → W p l e R s m args below meth c H1 locs1 cells slots Q (F0 m (pc + 1) ls rest)) : W p l e R s m args below meth c H locs cells slots Q (F0 m pc ls (.ref v :: .int (nI i) :: .ref a :: rest)) := by
  refine va_astq hx hb hK hP hD hS q0 t0 qk ci ha ht hv hc (vp_in_nI hi hn) d ?_
  rw [nI_clamp (Nat.lt_trans hi hn)]
  exact kk
end ZO
set_option maxHeartbeats 4000000 in
set_option maxRecDepth 100000 in
theorem c_UseInit (l : Launch) (g : zG) (ua : Nat)  : zWv l yX1_init wsX1_init ({ frames := 2, cells := 1, slots := 6, locals := 40 } : Room) [.ref ua] g [(ua, .inr (1, [.null, .int (nI 0)]))] (fun w => ∃ ar : Nat, w = [(ua, .inr (1, [.ref ar, .int (nI 0)])), (ar, .inl (g.2.2.1, 6, .inr (.inr (.inr (.inr (fun _ => none))))))]) 1 6 := by
  intro sz A hAe
  refine Met.ofW (cc := cX1_init) (maxL := 1) (ret := none) (by decide) rfl ?_
  intro p e s m args below meth c s₁ B hml hv
  obtain ⟨rfl, ⟨hsz, hP, hK, hD0⟩, hX⟩ := hv
  have hx := B.exec
  have hb := B.bytes
  have hr := B.returns
  have hts := atoms_spec (ws := wsX1_init) B.pre
  have hown : s.vm.findClass RX1 = some m.cls := findClass_of_methodNamed B.named
  have hlocks := B.notSynchronized
  have hin : meth.name = "<init>" := (name_of_methodNamed B.named B.method).1
  obtain ⟨hD, hA, hS⟩ := z_in hsz hAe hD0
  have hl := lv_entry ([.ref ua]) (n := 1) (Nat.le_of_ble_eq_true rfl)
  rw [lg_entry_eq]
  generalize (lg_sl ([.ref ua]) ++ List.replicate (1 - (lg_sl ([.ref ua])).length) Slot.unset).toArray = ls at hl ⊢
  have hl : lv_has ls 1 [(0, .ref ua)] := hl
  have hinX1 : ∀ w ∈ wsX10, w ∈ wsX1_init := by decide +kernel
  refine lv_aload_n hx hb dX1_init_0 rfl (lv_at hl 0 rfl) ?_
  refine W.objInit hx hb hown (hts (.methodLink RX1 1 objectInit) (by decide +kernel)) (hts (.instanceMethod objectInit) (by decide +kernel)) (hts (.code objectInit ⟨#[0xb1]⟩ 1 none) (by decide +kernel)) rfl (hl.1.trans hml.symm) rfl dX1_init_1 (Nat.le_of_ble_eq_true rfl) (Nat.le_of_ble_eq_true rfl) ?_
  refine W.eq (g2 := F0 m 4 ls []) rfl ?_
  refine lv_aload_n hx hb dX1_init_4 rfl (lv_at hl 0 rfl) ?_
  refine lv_bipush (v := nI 6) hx hb dX1_init_5 (by decide) ?_
  refine z_newQ hx hb hown (hts (.classLink RX1 9 RX0) (by decide +kernel)) hX.2.2.2.2.1 hK hP hD hS hA (by omega) (Nat.le_of_ble_eq_true rfl) (Nat.le_of_ble_eq_true rfl) dX1_init_7 (fun ar H hP hD hS => ?_)
  have hP : va_P g.1 vwCl [(ua, .inr (1, [.null, .int (nI 0)])), (ar, .inl (g.2.2.1, 6, .inr (.inr (.inr (.inr (fun _ => none))))))] H := hP
  have hD : va_D A [(ua, .inr (1, [.null, .int (nI 0)])), (ar, .inl (g.2.2.1, 6, .inr (.inr (.inr (.inr (fun _ => none))))))] := hD
  refine va_putF (D := g.1) (ci := 1) (v := .ref ar) (ty := (.array (.object "Usewise$Lease"))) (C := RX1) (T := TX1) (N := 2) hx hb hts hinX1 tyX1 tyX1_ok nmX1 hown hK hP hD hS 0 rfl rfl 0 (by decide) (hts (.fieldLink RX1 11 "Usewise" "leases" "[LUsewise$Lease;") (by decide +kernel)) (fun _ h9 => h9) rfl hin rfl (by decide +kernel) rfl rfl (Nat.le_of_ble_eq_true rfl) dX1_init_10 (fun H locs hP hD hS => ?_)
  have hP : va_P g.1 vwCl [(ua, .inr (1, [.ref ar, .int (nI 0)])), (ar, .inl (g.2.2.1, 6, .inr (.inr (.inr (.inr (fun _ => none))))))] H := hP
  have hD : va_D A [(ua, .inr (1, [.ref ar, .int (nI 0)])), (ar, .inl (g.2.2.1, 6, .inr (.inr (.inr (.inr (fun _ => none))))))] := hD
  refine lv_aload_n hx hb dX1_init_13 rfl (lv_at hl 0 rfl) ?_
  refine lv_iconst (v := nI 0) hx hb dX1_init_14 (by decide) ?_
  refine va_put (D := g.1) (ci := 1) (v := .int (nI 0)) (ty := .int) (C := RX1) (T := TX1) (N := 2) hx hb hts hinX1 tyX1 tyX1_ok nmX1 hown hK hP hD hS 0 rfl rfl 1 (by decide) (hts (.fieldLink RX1 15 "Usewise" "count" "I") (by decide +kernel)) (fun _ h9 => h9) rfl (by decide +kernel) rfl rfl (Nat.le_of_ble_eq_true rfl) dX1_init_15 (fun H locs hP hD hS => ?_)
  have hP : va_P g.1 vwCl [(ua, .inr (1, [.ref ar, .int (nI 0)])), (ar, .inl (g.2.2.1, 6, .inr (.inr (.inr (.inr (fun _ => none))))))] H := hP
  have hD : va_D A [(ua, .inr (1, [.ref ar, .int (nI 0)])), (ar, .inl (g.2.2.1, 6, .inr (.inr (.inr (.inr (fun _ => none))))))] := hD
  refine W.widen (k := 1) (n := 6) (Nat.le_of_ble_eq_true rfl) (Nat.le_of_ble_eq_true rfl) ?_
  exact z_vret hx hb hr hP hK hD hS dX1_init_18 hlocks (⟨ar, rfl⟩)

set_option maxHeartbeats 4000000 in
set_option maxRecDepth 100000 in
theorem c_add (l : Launch) (hst : l.stackTraces = false) (g : zG) (ua ar cnt : Nat) (rows : Nat → Option Nat) (x1 x2 x3 x4 x5 x6 x7 : Int32) (hcnt : cnt ≤ 6) : zXi l yX1_add wsX1_add ({ frames := 7, cells := 11, slots := 301, locals := 125 } : Room) [.ref ua, .int x1, .int x2, .int x3, .int x4, .int x5, .int x6, .int x7] g [(ua, .inr (1, [.ref ar, .int (nI cnt)])), (ar, .inl (g.2.2.1, 6, .inr (.inr (.inr (.inr rows)))))] (fun q w => ((nI 1 ≤ x1 ∧ x1 ≤ nI 60) ∧ ((nI 1 ≤ x2 ∧ x2 ≤ nI 10000) ∧ ((nI 0 ≤ x3 ∧ x3 ≤ nI 12) ∧ ((nI 0 ≤ x4 ∧ x4 ≤ nI 1000) ∧ ((nI 0 ≤ x5 ∧ x5 ≤ nI 20000) ∧ ((nI 1 ≤ x6 ∧ x6 ≤ nI 120) ∧ (nI 0 ≤ x7 ∧ x7 ≤ nI 10000))))))) ∧ (cnt < 6) ∧ q = nI cnt ∧ ∃ (h pa da : Nat) (q' : zRaw), w = [(ua, .inr (1, [.ref ar, .int (nI (cnt + 1))])), (ar, .inl (g.2.2.1, 6, .inr (.inr (.inr (.inr (va_up rows cnt (some h)))))))] ++ zLW g (h, pa, da) (zN x5) (zN x6) (zNew (zN x1) (zN x2) (zN x3) (zN x4) (zN x5) (zN x7)) q' ∧ zCR (zN x5) (zNew (zN x1) (zN x2) (zN x3) (zN x4) (zN x5) (zN x7)) q') (fun E => (E = "java/lang/IllegalArgumentException" ∧ ¬ ((nI 1 ≤ x1 ∧ x1 ≤ nI 60) ∧ ((nI 1 ≤ x2 ∧ x2 ≤ nI 10000) ∧ ((nI 0 ≤ x3 ∧ x3 ≤ nI 12) ∧ ((nI 0 ≤ x4 ∧ x4 ≤ nI 1000) ∧ ((nI 0 ≤ x5 ∧ x5 ≤ nI 20000) ∧ ((nI 1 ≤ x6 ∧ x6 ≤ nI 120) ∧ (nI 0 ≤ x7 ∧ x7 ≤ nI 10000)))))))) ∨ (E = "java/lang/IllegalStateException" ∧ ((nI 1 ≤ x1 ∧ x1 ≤ nI 60) ∧ ((nI 1 ≤ x2 ∧ x2 ≤ nI 10000) ∧ ((nI 0 ≤ x3 ∧ x3 ≤ nI 12) ∧ ((nI 0 ≤ x4 ∧ x4 ≤ nI 1000) ∧ ((nI 0 ≤ x5 ∧ x5 ≤ nI 20000) ∧ ((nI 1 ≤ x6 ∧ x6 ≤ nI 120) ∧ (nI 0 ≤ x7 ∧ x7 ≤ nI 10000))))))) ∧ ¬ (cnt < 6))) 11 301 := by
  intro sz A hAe
  refine vx_ofW (cc := cX1_add) (maxL := 9) (ret := some .int) (by decide) rfl ?_
  intro p e s m args below meth c s₁ B hml hout hv
  obtain ⟨rfl, ⟨hsz, hP, hK, hD0⟩, hX⟩ := hv
  have hx := B.exec
  have hb := B.bytes
  have hr := B.returns
  have hts := atoms_spec (ws := wsX1_add) B.pre
  have hown : s.vm.findClass RX1 = some m.cls := findClass_of_methodNamed B.named
  have hlocks := B.notSynchronized
  obtain ⟨hD, hA, hS⟩ := z_in hsz hAe hD0
  have hl := lv_entry ([.ref ua, .int x1, .int x2, .int x3, .int x4, .int x5, .int x6, .int x7]) (n := 9) (Nat.le_of_ble_eq_true rfl)
  rw [lg_entry_eq]
  generalize (lg_sl ([.ref ua, .int x1, .int x2, .int x3, .int x4, .int x5, .int x6, .int x7]) ++ List.replicate (9 - (lg_sl ([.ref ua, .int x1, .int x2, .int x3, .int x4, .int x5, .int x6, .int x7])).length) Slot.unset).toArray = ls at hl ⊢
  have hl : lv_has ls 9 [(0, .ref ua), (1, .int x1), (2, .int x2), (3, .int x3), (4, .int x4), (5, .int x5), (6, .int x6), (7, .int x7)] := hl
  have hinX0 : ∀ w ∈ wsX00, w ∈ wsX1_add := by decide +kernel
  have hinX1 : ∀ w ∈ wsX10, w ∈ wsX1_add := by decide +kernel
  refine lv_iload_n hx hb dX1_add_0 rfl (lv_at hl 1 rfl) ?_
  refine lv_iconst (v := nI 1) hx hb dX1_add_1 (by decide) ?_
  refine lv_bipush (v := nI 60) hx hb dX1_add_2 (by decide) ?_
  refine z_axv (wa := []) (wc := []) (wb := [(ua, .inr (1, [.ref ar, .int (nI cnt)])), (ar, .inl (g.2.2.1, 6, .inr (.inr (.inr (.inr rows)))))]) (vx_runS (As := [.int x1, .int (nI 1), .int (nI 60)]) (rest := []) ⟨hx, hb, hml, hown, hts⟩ (c_mustBeWithin l hst g x1 (nI 1) (nI 60) s.heap.size _ rfl) (va_cwS 3 hts gX1_add_X1_mustBeWithin rfl rfl rfl (by decide +kernel) ⟨Nat.le_of_ble_eq_true rfl, Nat.le_of_ble_eq_true rfl⟩) (zpreXS (wa := []) (wc := []) (wb := [(ua, .inr (1, [.ref ar, .int (nI cnt)])), (ar, .inl (g.2.2.1, 6, .inr (.inr (.inr (.inr rows)))))]) hK hP hD hS hA hX) rfl rfl hl.1 rfl (lv_room (Nat.le_of_ble_eq_true rfl)) dX1_add_4 ⟨Nat.le_of_ble_eq_true rfl, Nat.le_of_ble_eq_true rfl⟩) hP hD hS hA (fun E ce q9 H locs hE hP hD hS hc1 hc2 hc3 => ?_) (fun w1 H locs hq hP hD hS => ?_)
  · exact z_out hout hP hK hD hS hlocks hc1 hc2 hc3 (Or.inl ⟨hE.1, fun z => hE.2 z.1⟩) (Nat.le_of_ble_eq_true rfl) (Nat.le_of_ble_eq_true rfl)
  · obtain ⟨hr1, rfl⟩ := hq
    have hP : va_P g.1 vwCl [(ua, .inr (1, [.ref ar, .int (nI cnt)])), (ar, .inl (g.2.2.1, 6, .inr (.inr (.inr (.inr rows)))))] H := hP
    have hD : va_D A [(ua, .inr (1, [.ref ar, .int (nI cnt)])), (ar, .inl (g.2.2.1, 6, .inr (.inr (.inr (.inr rows)))))] := hD
    refine lv_iload_n hx hb dX1_add_7 rfl (lv_at hl 2 rfl) ?_
    refine lv_iconst (v := nI 1) hx hb dX1_add_8 (by decide) ?_
    refine lv_sipush (v := nI 10000) hx hb dX1_add_9 (by decide) ?_
    refine z_axv (wa := []) (wc := []) (wb := [(ua, .inr (1, [.ref ar, .int (nI cnt)])), (ar, .inl (g.2.2.1, 6, .inr (.inr (.inr (.inr rows)))))]) (vx_runS (As := [.int x2, .int (nI 1), .int (nI 10000)]) (rest := []) ⟨hx, hb, hml, hown, hts⟩ (c_mustBeWithin l hst g x2 (nI 1) (nI 10000) H.size _ rfl) (va_cwS 3 hts gX1_add_X1_mustBeWithin rfl rfl rfl (by decide +kernel) ⟨Nat.le_of_ble_eq_true rfl, Nat.le_of_ble_eq_true rfl⟩) (zpreXS (wa := []) (wc := []) (wb := [(ua, .inr (1, [.ref ar, .int (nI cnt)])), (ar, .inl (g.2.2.1, 6, .inr (.inr (.inr (.inr rows)))))]) hK hP hD hS hA hX) rfl rfl hl.1 rfl (lv_room (Nat.le_of_ble_eq_true rfl)) dX1_add_12 ⟨Nat.le_of_ble_eq_true rfl, Nat.le_of_ble_eq_true rfl⟩) hP hD hS hA (fun E ce q9 H locs hE hP hD hS hc1 hc2 hc3 => ?_) (fun w1 H locs hq hP hD hS => ?_)
    · exact z_out hout hP hK hD hS hlocks hc1 hc2 hc3 (Or.inl ⟨hE.1, fun z => hE.2 z.2.1⟩) (Nat.le_of_ble_eq_true rfl) (Nat.le_of_ble_eq_true rfl)
    · obtain ⟨hr2, rfl⟩ := hq
      have hP : va_P g.1 vwCl [(ua, .inr (1, [.ref ar, .int (nI cnt)])), (ar, .inl (g.2.2.1, 6, .inr (.inr (.inr (.inr rows)))))] H := hP
      have hD : va_D A [(ua, .inr (1, [.ref ar, .int (nI cnt)])), (ar, .inl (g.2.2.1, 6, .inr (.inr (.inr (.inr rows)))))] := hD
      refine lv_iload_n hx hb dX1_add_15 rfl (lv_at hl 3 rfl) ?_
      refine lv_iconst (v := nI 0) hx hb dX1_add_16 (by decide) ?_
      refine lv_bipush (v := nI 12) hx hb dX1_add_17 (by decide) ?_
      refine z_axv (wa := []) (wc := []) (wb := [(ua, .inr (1, [.ref ar, .int (nI cnt)])), (ar, .inl (g.2.2.1, 6, .inr (.inr (.inr (.inr rows)))))]) (vx_runS (As := [.int x3, .int (nI 0), .int (nI 12)]) (rest := []) ⟨hx, hb, hml, hown, hts⟩ (c_mustBeWithin l hst g x3 (nI 0) (nI 12) H.size _ rfl) (va_cwS 3 hts gX1_add_X1_mustBeWithin rfl rfl rfl (by decide +kernel) ⟨Nat.le_of_ble_eq_true rfl, Nat.le_of_ble_eq_true rfl⟩) (zpreXS (wa := []) (wc := []) (wb := [(ua, .inr (1, [.ref ar, .int (nI cnt)])), (ar, .inl (g.2.2.1, 6, .inr (.inr (.inr (.inr rows)))))]) hK hP hD hS hA hX) rfl rfl hl.1 rfl (lv_room (Nat.le_of_ble_eq_true rfl)) dX1_add_19 ⟨Nat.le_of_ble_eq_true rfl, Nat.le_of_ble_eq_true rfl⟩) hP hD hS hA (fun E ce q9 H locs hE hP hD hS hc1 hc2 hc3 => ?_) (fun w1 H locs hq hP hD hS => ?_)
      · exact z_out hout hP hK hD hS hlocks hc1 hc2 hc3 (Or.inl ⟨hE.1, fun z => hE.2 z.2.2.1⟩) (Nat.le_of_ble_eq_true rfl) (Nat.le_of_ble_eq_true rfl)
      · obtain ⟨hr3, rfl⟩ := hq
        have hP : va_P g.1 vwCl [(ua, .inr (1, [.ref ar, .int (nI cnt)])), (ar, .inl (g.2.2.1, 6, .inr (.inr (.inr (.inr rows)))))] H := hP
        have hD : va_D A [(ua, .inr (1, [.ref ar, .int (nI cnt)])), (ar, .inl (g.2.2.1, 6, .inr (.inr (.inr (.inr rows)))))] := hD
        refine lv_iload hx hb dX1_add_22 (lv_at hl 4 rfl) ?_
        refine lv_iconst (v := nI 0) hx hb dX1_add_24 (by decide) ?_
        refine lv_sipush (v := nI 1000) hx hb dX1_add_25 (by decide) ?_
        refine z_axv (wa := []) (wc := []) (wb := [(ua, .inr (1, [.ref ar, .int (nI cnt)])), (ar, .inl (g.2.2.1, 6, .inr (.inr (.inr (.inr rows)))))]) (vx_runS (As := [.int x4, .int (nI 0), .int (nI 1000)]) (rest := []) ⟨hx, hb, hml, hown, hts⟩ (c_mustBeWithin l hst g x4 (nI 0) (nI 1000) H.size _ rfl) (va_cwS 3 hts gX1_add_X1_mustBeWithin rfl rfl rfl (by decide +kernel) ⟨Nat.le_of_ble_eq_true rfl, Nat.le_of_ble_eq_true rfl⟩) (zpreXS (wa := []) (wc := []) (wb := [(ua, .inr (1, [.ref ar, .int (nI cnt)])), (ar, .inl (g.2.2.1, 6, .inr (.inr (.inr (.inr rows)))))]) hK hP hD hS hA hX) rfl rfl hl.1 rfl (lv_room (Nat.le_of_ble_eq_true rfl)) dX1_add_28 ⟨Nat.le_of_ble_eq_true rfl, Nat.le_of_ble_eq_true rfl⟩) hP hD hS hA (fun E ce q9 H locs hE hP hD hS hc1 hc2 hc3 => ?_) (fun w1 H locs hq hP hD hS => ?_)
        · exact z_out hout hP hK hD hS hlocks hc1 hc2 hc3 (Or.inl ⟨hE.1, fun z => hE.2 z.2.2.2.1⟩) (Nat.le_of_ble_eq_true rfl) (Nat.le_of_ble_eq_true rfl)
        · obtain ⟨hr4, rfl⟩ := hq
          have hP : va_P g.1 vwCl [(ua, .inr (1, [.ref ar, .int (nI cnt)])), (ar, .inl (g.2.2.1, 6, .inr (.inr (.inr (.inr rows)))))] H := hP
          have hD : va_D A [(ua, .inr (1, [.ref ar, .int (nI cnt)])), (ar, .inl (g.2.2.1, 6, .inr (.inr (.inr (.inr rows)))))] := hD
          refine lv_iload hx hb dX1_add_31 (lv_at hl 5 rfl) ?_
          refine lv_iconst (v := nI 0) hx hb dX1_add_33 (by decide) ?_
          refine lv_sipush (v := nI 20000) hx hb dX1_add_34 (by decide) ?_
          refine z_axv (wa := []) (wc := []) (wb := [(ua, .inr (1, [.ref ar, .int (nI cnt)])), (ar, .inl (g.2.2.1, 6, .inr (.inr (.inr (.inr rows)))))]) (vx_runS (As := [.int x5, .int (nI 0), .int (nI 20000)]) (rest := []) ⟨hx, hb, hml, hown, hts⟩ (c_mustBeWithin l hst g x5 (nI 0) (nI 20000) H.size _ rfl) (va_cwS 3 hts gX1_add_X1_mustBeWithin rfl rfl rfl (by decide +kernel) ⟨Nat.le_of_ble_eq_true rfl, Nat.le_of_ble_eq_true rfl⟩) (zpreXS (wa := []) (wc := []) (wb := [(ua, .inr (1, [.ref ar, .int (nI cnt)])), (ar, .inl (g.2.2.1, 6, .inr (.inr (.inr (.inr rows)))))]) hK hP hD hS hA hX) rfl rfl hl.1 rfl (lv_room (Nat.le_of_ble_eq_true rfl)) dX1_add_37 ⟨Nat.le_of_ble_eq_true rfl, Nat.le_of_ble_eq_true rfl⟩) hP hD hS hA (fun E ce q9 H locs hE hP hD hS hc1 hc2 hc3 => ?_) (fun w1 H locs hq hP hD hS => ?_)
          · exact z_out hout hP hK hD hS hlocks hc1 hc2 hc3 (Or.inl ⟨hE.1, fun z => hE.2 z.2.2.2.2.1⟩) (Nat.le_of_ble_eq_true rfl) (Nat.le_of_ble_eq_true rfl)
          · obtain ⟨hr5, rfl⟩ := hq
            have hP : va_P g.1 vwCl [(ua, .inr (1, [.ref ar, .int (nI cnt)])), (ar, .inl (g.2.2.1, 6, .inr (.inr (.inr (.inr rows)))))] H := hP
            have hD : va_D A [(ua, .inr (1, [.ref ar, .int (nI cnt)])), (ar, .inl (g.2.2.1, 6, .inr (.inr (.inr (.inr rows)))))] := hD
            refine lv_iload hx hb dX1_add_40 (lv_at hl 6 rfl) ?_
            refine lv_iconst (v := nI 1) hx hb dX1_add_42 (by decide) ?_
            refine lv_bipush (v := nI 120) hx hb dX1_add_43 (by decide) ?_
            refine z_axv (wa := []) (wc := []) (wb := [(ua, .inr (1, [.ref ar, .int (nI cnt)])), (ar, .inl (g.2.2.1, 6, .inr (.inr (.inr (.inr rows)))))]) (vx_runS (As := [.int x6, .int (nI 1), .int (nI 120)]) (rest := []) ⟨hx, hb, hml, hown, hts⟩ (c_mustBeWithin l hst g x6 (nI 1) (nI 120) H.size _ rfl) (va_cwS 3 hts gX1_add_X1_mustBeWithin rfl rfl rfl (by decide +kernel) ⟨Nat.le_of_ble_eq_true rfl, Nat.le_of_ble_eq_true rfl⟩) (zpreXS (wa := []) (wc := []) (wb := [(ua, .inr (1, [.ref ar, .int (nI cnt)])), (ar, .inl (g.2.2.1, 6, .inr (.inr (.inr (.inr rows)))))]) hK hP hD hS hA hX) rfl rfl hl.1 rfl (lv_room (Nat.le_of_ble_eq_true rfl)) dX1_add_45 ⟨Nat.le_of_ble_eq_true rfl, Nat.le_of_ble_eq_true rfl⟩) hP hD hS hA (fun E ce q9 H locs hE hP hD hS hc1 hc2 hc3 => ?_) (fun w1 H locs hq hP hD hS => ?_)
            · exact z_out hout hP hK hD hS hlocks hc1 hc2 hc3 (Or.inl ⟨hE.1, fun z => hE.2 z.2.2.2.2.2.1⟩) (Nat.le_of_ble_eq_true rfl) (Nat.le_of_ble_eq_true rfl)
            · obtain ⟨hr6, rfl⟩ := hq
              have hP : va_P g.1 vwCl [(ua, .inr (1, [.ref ar, .int (nI cnt)])), (ar, .inl (g.2.2.1, 6, .inr (.inr (.inr (.inr rows)))))] H := hP
              have hD : va_D A [(ua, .inr (1, [.ref ar, .int (nI cnt)])), (ar, .inl (g.2.2.1, 6, .inr (.inr (.inr (.inr rows)))))] := hD
              refine lv_iload hx hb dX1_add_48 (lv_at hl 7 rfl) ?_
              refine lv_iconst (v := nI 0) hx hb dX1_add_50 (by decide) ?_
              refine lv_sipush (v := nI 10000) hx hb dX1_add_51 (by decide) ?_
              refine z_axv (wa := []) (wc := []) (wb := [(ua, .inr (1, [.ref ar, .int (nI cnt)])), (ar, .inl (g.2.2.1, 6, .inr (.inr (.inr (.inr rows)))))]) (vx_runS (As := [.int x7, .int (nI 0), .int (nI 10000)]) (rest := []) ⟨hx, hb, hml, hown, hts⟩ (c_mustBeWithin l hst g x7 (nI 0) (nI 10000) H.size _ rfl) (va_cwS 3 hts gX1_add_X1_mustBeWithin rfl rfl rfl (by decide +kernel) ⟨Nat.le_of_ble_eq_true rfl, Nat.le_of_ble_eq_true rfl⟩) (zpreXS (wa := []) (wc := []) (wb := [(ua, .inr (1, [.ref ar, .int (nI cnt)])), (ar, .inl (g.2.2.1, 6, .inr (.inr (.inr (.inr rows)))))]) hK hP hD hS hA hX) rfl rfl hl.1 rfl (lv_room (Nat.le_of_ble_eq_true rfl)) dX1_add_54 ⟨Nat.le_of_ble_eq_true rfl, Nat.le_of_ble_eq_true rfl⟩) hP hD hS hA (fun E ce q9 H locs hE hP hD hS hc1 hc2 hc3 => ?_) (fun w1 H locs hq hP hD hS => ?_)
              · exact z_out hout hP hK hD hS hlocks hc1 hc2 hc3 (Or.inl ⟨hE.1, fun z => hE.2 z.2.2.2.2.2.2⟩) (Nat.le_of_ble_eq_true rfl) (Nat.le_of_ble_eq_true rfl)
              · obtain ⟨hr7, rfl⟩ := hq
                have hP : va_P g.1 vwCl [(ua, .inr (1, [.ref ar, .int (nI cnt)])), (ar, .inl (g.2.2.1, 6, .inr (.inr (.inr (.inr rows)))))] H := hP
                have hD : va_D A [(ua, .inr (1, [.ref ar, .int (nI cnt)])), (ar, .inl (g.2.2.1, 6, .inr (.inr (.inr (.inr rows)))))] := hD
                have hrng : ((nI 1 ≤ x1 ∧ x1 ≤ nI 60) ∧ ((nI 1 ≤ x2 ∧ x2 ≤ nI 10000) ∧ ((nI 0 ≤ x3 ∧ x3 ≤ nI 12) ∧ ((nI 0 ≤ x4 ∧ x4 ≤ nI 1000) ∧ ((nI 0 ≤ x5 ∧ x5 ≤ nI 20000) ∧ ((nI 1 ≤ x6 ∧ x6 ≤ nI 120) ∧ (nI 0 ≤ x7 ∧ x7 ≤ nI 10000))))))) := ⟨hr1, hr2, hr3, hr4, hr5, hr6, hr7⟩
                obtain ⟨e1, h11, h12⟩ := zN_in (by decide) (by decide) hr1
                obtain ⟨e2, h21, h22⟩ := zN_in (by decide) (by decide) hr2
                obtain ⟨e3, h31, h32⟩ := zN_in (by decide) (by decide) hr3
                obtain ⟨e4, h41, h42⟩ := zN_in (by decide) (by decide) hr4
                obtain ⟨e5, h51, h52⟩ := zN_in (by decide) (by decide) hr5
                obtain ⟨e6, h61, h62⟩ := zN_in (by decide) (by decide) hr6
                obtain ⟨e7, h71, h72⟩ := zN_in (by decide) (by decide) hr7
                refine lv_aload_n hx hb dX1_add_57 rfl (lv_at hl 0 rfl) ?_
                refine va_get (D := g.1) (ci := 1) (v := .int (nI cnt)) (C := RX1) (T := TX1) (N := 2) hx hb hts hinX1 hown hK hP 0 rfl rfl 1 (by decide) (hts (.fieldLink RX1 15 "Usewise" "count" "I") (by decide +kernel)) (fun _ h9 => h9) rfl dX1_add_58 ?_
                refine lv_istore (lv' := [(8, .int (nI cnt)), (0, .ref ua), (1, .int x1), (2, .int x2), (3, .int x3), (4, .int x4), (5, .int x5), (6, .int x6), (7, .int x7)]) hx hb dX1_add_61 hl (by decide) rfl (fun ls hl => ?_)
                refine lv_iload hx hb dX1_add_63 (lv_at hl 0 rfl) ?_
                refine z_if_lt (tgt := 78) hx hb dX1_add_65 (by decide) (by omega) (fun hc => ?_) (fun hc => ?_)
                · exact hc.elim
                · refine lv_iload hx hb dX1_add_68 (lv_at hl 0 rfl) ?_
                  refine lv_aload_n hx hb dX1_add_70 rfl (lv_at hl 1 rfl) ?_
                  refine va_get (D := g.1) (ci := 1) (v := .ref ar) (C := RX1) (T := TX1) (N := 2) hx hb hts hinX1 hown hK hP 0 rfl rfl 0 (by decide) (hts (.fieldLink RX1 11 "Usewise" "leases" "[LUsewise$Lease;") (by decide +kernel)) (fun _ h9 => h9) rfl dX1_add_71 ?_
                  refine va_alen (v := nI 6) hx hb hK hP 1 1 rfl rfl rfl dX1_add_74 ?_
                  refine z_icmp_lt (tgt := 88) hx hb dX1_add_75 (by decide) (by omega) (by omega) (fun hd => ?_) (fun hd => ?_)
                  · refine lv_aload_n hx hb dX1_add_88 rfl (lv_at hl 1 rfl) ?_
                    refine va_get (D := g.1) (ci := 1) (v := .ref ar) (C := RX1) (T := TX1) (N := 2) hx hb hts hinX1 hown hK hP 0 rfl rfl 0 (by decide) (hts (.fieldLink RX1 11 "Usewise" "leases" "[LUsewise$Lease;") (by decide +kernel)) (fun _ h9 => h9) rfl dX1_add_89 ?_
                    refine lv_iload hx hb dX1_add_92 (lv_at hl 0 rfl) ?_
                    refine va_new (ci := 0) (fs := [.int (nI 0), .int (nI 0), .null, .null, .int (nI 0), .int (nI 0), .long (lN 0), .long (lN 0), .long (lN 0), .long (lN 0), .long (lN 0)]) (C := RX0) (T := TX0) (N := 11) hx hb hts hinX0 tyX0 tyX0_ok hown (hts (.classLink RX1 9 RX0) (by decide +kernel)) (hts (.instantiable RX0 11) (by decide +kernel)) (hts (.initialized RX0) (by decide +kernel)) hK hP hD hS hA rfl (fun j hj => by rcases (show j = 0 ∨ j = 1 ∨ j = 2 ∨ j = 3 ∨ j = 4 ∨ j = 5 ∨ j = 6 ∨ j = 7 ∨ j = 8 ∨ j = 9 ∨ j = 10 by omega) with rfl | rfl | rfl | rfl | rfl | rfl | rfl | rfl | rfl | rfl | rfl <;> rfl) (Nat.le_of_ble_eq_true rfl) (Nat.le_of_ble_eq_true rfl) dX1_add_94 (fun h H hP hD hS => ?_)
                    have hP : va_P g.1 vwCl [(ua, .inr (1, [.ref ar, .int (nI cnt)])), (ar, .inl (g.2.2.1, 6, .inr (.inr (.inr (.inr rows))))), (h, .inr (0, [.int (nI 0), .int (nI 0), .null, .null, .int (nI 0), .int (nI 0), .long (lN 0), .long (lN 0), .long (lN 0), .long (lN 0), .long (lN 0)]))] H := hP
                    have hD : va_D A [(ua, .inr (1, [.ref ar, .int (nI cnt)])), (ar, .inl (g.2.2.1, 6, .inr (.inr (.inr (.inr rows))))), (h, .inr (0, [.int (nI 0), .int (nI 0), .null, .null, .int (nI 0), .int (nI 0), .long (lN 0), .long (lN 0), .long (lN 0), .long (lN 0), .long (lN 0)]))] := hD
                    refine lv_dup hx hb dX1_add_97 rfl ?_
                    refine lv_iload_n hx hb dX1_add_98 rfl (lv_at hl 2 rfl) ?_
                    refine zi (y := nI (zN x1)) (e1) ?_
                    refine lv_iload_n hx hb dX1_add_99 rfl (lv_at hl 3 rfl) ?_
                    refine zi (y := nI (zN x2)) (e2) ?_
                    refine lv_iload_n hx hb dX1_add_100 rfl (lv_at hl 4 rfl) ?_
                    refine zi (y := nI (zN x3)) (e3) ?_
                    refine lv_iload hx hb dX1_add_101 (lv_at hl 5 rfl) ?_
                    refine zi (y := nI (zN x4)) (e4) ?_
                    refine lv_iload hx hb dX1_add_103 (lv_at hl 6 rfl) ?_
                    refine zi (y := nI (zN x5)) (e5) ?_
                    refine lv_iload hx hb dX1_add_105 (lv_at hl 7 rfl) ?_
                    refine zi (y := nI (zN x6)) (e6) ?_
                    refine lv_iload hx hb dX1_add_107 (lv_at hl 8 rfl) ?_
                    refine zi (y := nI (zN x7)) (e7) ?_
                    refine z_av (wa := [(ua, .inr (1, [.ref ar, .int (nI cnt)])), (ar, .inl (g.2.2.1, 6, .inr (.inr (.inr (.inr rows)))))]) (wc := [(h, .inr (0, [.int (nI 0), .int (nI 0), .null, .null, .int (nI 0), .int (nI 0), .long (lN 0), .long (lN 0), .long (lN 0), .long (lN 0), .long (lN 0)]))]) (wb := []) (va_runI (As := [.int (nI (zN x1)), .int (nI (zN x2)), .int (nI (zN x3)), .int (nI (zN x4)), .int (nI (zN x5)), .int (nI (zN x6)), .int (nI (zN x7))]) (rest := [.ref h, .int (nI cnt), .ref ar]) ⟨hx, hb, hml, hown, hts⟩ (c_LeaseInit l g h (zN x1) (zN x2) (zN x3) (zN x4) (zN x5) (zN x6) (zN x7) ⟨h11, h12⟩ h22 h32 h42 h52 h62 h72 H.size _ rfl) (cwI 7 hts gX1_add_X0_init rfl rfl rfl (hts (.initialized RX0) (by decide +kernel)) (hts (.methodLink RX1 30 yX0_init) (by decide +kernel)) (hts (.instanceMethod yX0_init) (by decide +kernel)) rfl (by decide +kernel) ⟨Nat.le_of_ble_eq_true rfl, Nat.le_of_ble_eq_true rfl⟩) (zpreS (wa := [(ua, .inr (1, [.ref ar, .int (nI cnt)])), (ar, .inl (g.2.2.1, 6, .inr (.inr (.inr (.inr rows)))))]) (wc := [(h, .inr (0, [.int (nI 0), .int (nI 0), .null, .null, .int (nI 0), .int (nI 0), .long (lN 0), .long (lN 0), .long (lN 0), .long (lN 0), .long (lN 0)]))]) (wb := []) hK hP hD) rfl rfl hl.1 rfl (lv_room (Nat.le_of_ble_eq_true rfl)) dX1_add_109 ⟨Nat.le_of_ble_eq_true rfl, Nat.le_of_ble_eq_true rfl⟩) hP hD hS hA (fun w1 H locs hq hP hD hS => ?_)
                    obtain ⟨pa, da, q', rfl, hC⟩ := hq
                    have hP : va_P g.1 vwCl ([(ua, .inr (1, [.ref ar, .int (nI cnt)])), (ar, .inl (g.2.2.1, 6, .inr (.inr (.inr (.inr rows)))))] ++ (zLW g (h, pa, da) (zN x5) (zN x6) (zNew (zN x1) (zN x2) (zN x3) (zN x4) (zN x5) (zN x7)) q')) H := hP
                    have hD : va_D A ([(ua, .inr (1, [.ref ar, .int (nI cnt)])), (ar, .inl (g.2.2.1, 6, .inr (.inr (.inr (.inr rows)))))] ++ (zLW g (h, pa, da) (zN x5) (zN x6) (zNew (zN x1) (zN x2) (zN x3) (zN x4) (zN x5) (zN x7)) q')) := hD
                    refine z_aast hx hb hK hP hD hS 1 1 2 0 rfl rfl rfl rfl hd (by decide) dX1_add_112 (fun H locs hP hD hS => ?_)
                    have hP : va_P g.1 vwCl ([(ua, .inr (1, [.ref ar, .int (nI cnt)])), (ar, .inl (g.2.2.1, 6, .inr (.inr (.inr (.inr (va_up rows cnt (some h)))))))] ++ (zLW g (h, pa, da) (zN x5) (zN x6) (zNew (zN x1) (zN x2) (zN x3) (zN x4) (zN x5) (zN x7)) q')) H := hP
                    have hD : va_D A ([(ua, .inr (1, [.ref ar, .int (nI cnt)])), (ar, .inl (g.2.2.1, 6, .inr (.inr (.inr (.inr (va_up rows cnt (some h)))))))] ++ (zLW g (h, pa, da) (zN x5) (zN x6) (zNew (zN x1) (zN x2) (zN x3) (zN x4) (zN x5) (zN x7)) q')) := hD
                    refine lv_aload_n hx hb dX1_add_113 rfl (lv_at hl 1 rfl) ?_
                    refine lv_iload hx hb dX1_add_114 (lv_at hl 0 rfl) ?_
                    refine lv_iconst (v := nI 1) hx hb dX1_add_116 (by decide) ?_
                    refine z_iadd hx hb dX1_add_117 ?_
                    refine va_put (D := g.1) (ci := 1) (v := .int (nI (cnt + 1))) (ty := .int) (C := RX1) (T := TX1) (N := 2) hx hb hts hinX1 tyX1 tyX1_ok nmX1 hown hK hP hD hS 0 rfl rfl 1 (by decide) (hts (.fieldLink RX1 15 "Usewise" "count" "I") (by decide +kernel)) (fun _ h9 => h9) rfl (by decide +kernel) rfl rfl (Nat.le_of_ble_eq_true rfl) dX1_add_118 (fun H locs hP hD hS => ?_)
                    have hP : va_P g.1 vwCl ([(ua, .inr (1, [.ref ar, .int (nI (cnt + 1))])), (ar, .inl (g.2.2.1, 6, .inr (.inr (.inr (.inr (va_up rows cnt (some h)))))))] ++ (zLW g (h, pa, da) (zN x5) (zN x6) (zNew (zN x1) (zN x2) (zN x3) (zN x4) (zN x5) (zN x7)) q')) H := hP
                    have hD : va_D A ([(ua, .inr (1, [.ref ar, .int (nI (cnt + 1))])), (ar, .inl (g.2.2.1, 6, .inr (.inr (.inr (.inr (va_up rows cnt (some h)))))))] ++ (zLW g (h, pa, da) (zN x5) (zN x6) (zNew (zN x1) (zN x2) (zN x3) (zN x4) (zN x5) (zN x7)) q')) := hD
                    refine lv_iload hx hb dX1_add_121 (lv_at hl 0 rfl) ?_
                    refine W.widen (k := 11) (n := 301) (Nat.le_of_ble_eq_true rfl) (Nat.le_of_ble_eq_true rfl) ?_
                    exact z_xiret hx hb hr hP hK hD hS dX1_add_123 hlocks (⟨hrng, hd, rfl, h, pa, da, q', rfl, hC⟩)
                  · exact z_throw (text := "there are as many leases as there can be") (Ts := wsX1_add) hx hb hst hown (by decide +kernel) hts (by decide +kernel) (by decide +kernel) (by decide +kernel) zbw_ISE zot_ISE_23 (by decide +kernel) hX hA hP hK hD hS (hl.1.trans hml.symm) dX1_add_78 dX1_add_81 dX1_add_82 dX1_add_84 dX1_add_87 hout (Nat.le_of_ble_eq_true rfl) (Nat.le_of_ble_eq_true rfl) (Nat.le_of_ble_eq_true rfl) (Nat.le_of_ble_eq_true rfl) hlocks (Or.inr ⟨rfl, hrng, by omega⟩) (Nat.le_of_ble_eq_true rfl) (Nat.le_of_ble_eq_true rfl)
