/-! the class of a lease: it is made -/
section ZN
variable {p : Program} {l : Launch} {e : Env} {R : Room} {s : State} {m : MethodId} {args : Array Value} {below : List Frame} {meth : Method} {c : Code} {H : Heap} {locs : List Loc} {cells slots : Nat} {Q : State → Prop} {cc : ByteArray} {pc : Nat} {ls : Array Slot} {rest : List Value} {g : zG} {A : Nat → Prop} {ws : va_W}
theorem z_newI (hx : p.tables.exec = Jvm.exec) (hb : c.code = cc) (harr : (Cond.arrayClass .int).before args s = true) (hK : zK g s) (hP : va_P g.1 vwCl ws H) (hD : va_D A ws) (hS : va_S A s.heap H locs) (hA : ∀ q, s.heap.size ≤ q → A q) {n : Nat} (hn : n ≤ 1000000) (hcells : cells + 1 ≤ R.cells) (hslots : slots + n ≤ R.slots) (d : decode cc pc = .ok (.newarray .int, 2))
    (kk : ∀ (q : Nat) (H1 : Heap), va_P g.1 vwCl (ws ++ [(q, .inl (g.2.1, n, .inl (fun _ => 0)))]) H1 → va_D A (ws ++ [(q, .inl (g.2.1, n, .inl (fun _ => 0)))]) → va_S A s.heap H1 locs → W p l e R s m args below meth c H1 locs (cells + 1) (slots + n) Q (F0 m (pc + 2) ls (.ref q :: rest))) : W p l e R s m args below meth c H locs cells slots Q (F0 m pc ls (.int (nI n) :: rest)) := by
  refine va_newa (atype := .int) hx hb harr rfl hK hP hD hS hA (N' := n) (a0 := (n, .inl (fun _ => 0))) (fun _ => rfl) (nI_pos (by omega)) (nI_clamp (by omega)) (by show n * 4 ≤ _; omega) hcells hslots d ?_
  intro q cA H1 hK2 hP2 hD2 hS2
  have h1 : s.vm.findClass ("[" ++ (FieldType.int).toString) = some cA := (hK2.2 3 (cA, .int) rfl).2
  have h2 : s.vm.findClass ("[" ++ (FieldType.int).toString) = some g.2.1 := (hK.2 0 (g.2.1, .int) rfl).2
  obtain rfl : cA = g.2.1 := Option.some.inj (h1.symm.trans h2)
  exact kk q H1 hP2 hD2 hS2
end ZN
def zPy (x0 fr st : Nat) : Nat → Nat := fun j => if j < fr then 0 else x0 + st * (j / 12)
def zNew (T0 x0 fr st rt cs : Nat) : zS := (T0, 0, zPy x0 fr st, zWr rt (zPy x0 fr st) T0 (T0 - 0) + cs, 0, 0, 0, 0)
theorem zPy_le {x0 fr st j : Nat} (hx : x0 ≤ 10000) (hs : st ≤ 1000) (hj : j < 60) : zPy x0 fr st j ≤ 1000000 := by
  unfold zPy
  split
  · omega
  · have : st * (j / 12) ≤ 1000 * 5 := Nat.mul_le_mul hs (by omega)
    omega
theorem zInv_new {T0 x0 fr st rt lf cs : Nat} (hT : T0 ≤ 60) (hx : x0 ≤ 10000) (hs : st ≤ 1000) (hrt : rt ≤ 20000) (hlf : lf ≤ 120) (hcs : cs ≤ 10000) : zInv rt lf (zNew T0 x0 fr st rt cs) :=
  ⟨by omega, Nat.zero_le _, hrt, hlf, fun j _ h2 => zPy_le hx hs (by omega), by omega⟩
set_option maxHeartbeats 4000000 in
set_option maxRecDepth 100000 in
theorem c_LeaseInit (l : Launch) (g : zG) (h T0 x0 fr st rt lf cs : Nat) (hT0 : 1 ≤ T0 ∧ T0 ≤ 60) (hx0 : x0 ≤ 10000) (hfr : fr ≤ 12) (hst : st ≤ 1000) (hrt : rt ≤ 20000) (hlf : lf ≤ 120) (hcs : cs ≤ 10000) : zMv l yX0_init wsX0_init ({ frames := 2, cells := 2, slots := 241, locals := 48 } : Room) [.ref h, .int (nI T0), .int (nI x0), .int (nI fr), .int (nI st), .int (nI rt), .int (nI lf), .int (nI cs)] g [(h, .inr (0, [.int (nI 0), .int (nI 0), .null, .null, .int (nI 0), .int (nI 0), .long (lN 0), .long (lN 0), .long (lN 0), .long (lN 0), .long (lN 0)]))] (fun w => ∃ (pa da : Nat) (q' : zRaw), w = zLW g (h, pa, da) rt lf (zNew T0 x0 fr st rt cs) q' ∧ zCR rt (zNew T0 x0 fr st rt cs) q') 2 241 := by
  intro sz A hAe
  refine Met.ofW (cc := cX0_init) (maxL := 9) (ret := none) (by decide) rfl ?_
  intro p e s m args below meth c s₁ B hml hv
  obtain ⟨rfl, hsz, hP, hK, hD0⟩ := hv
  have hx := B.exec
  have hb := B.bytes
  have hr := B.returns
  have hts := atoms_spec (ws := wsX0_init) B.pre
  have hown : s.vm.findClass RX0 = some m.cls := findClass_of_methodNamed B.named
  have hlocks := B.notSynchronized
  have hin : meth.name = "<init>" := (name_of_methodNamed B.named B.method).1
  obtain ⟨hD, hA, hS⟩ := z_in hsz hAe hD0
  have hl := lv_entry ([.ref h, .int (nI T0), .int (nI x0), .int (nI fr), .int (nI st), .int (nI rt), .int (nI lf), .int (nI cs)]) (n := 9) (Nat.le_of_ble_eq_true rfl)
  rw [lg_entry_eq]
  generalize (lg_sl ([.ref h, .int (nI T0), .int (nI x0), .int (nI fr), .int (nI st), .int (nI rt), .int (nI lf), .int (nI cs)]) ++ List.replicate (9 - (lg_sl ([.ref h, .int (nI T0), .int (nI x0), .int (nI fr), .int (nI st), .int (nI rt), .int (nI lf), .int (nI cs)])).length) Slot.unset).toArray = ls at hl ⊢
  have hl : lv_has ls 9 [(0, .ref h), (1, .int (nI T0)), (2, .int (nI x0)), (3, .int (nI fr)), (4, .int (nI st)), (5, .int (nI rt)), (6, .int (nI lf)), (7, .int (nI cs))] := hl
  have hinX0 : ∀ w ∈ wsX00, w ∈ wsX0_init := by decide +kernel
  have hp : ∀ j, 0 ≤ j → j < T0 → zPy x0 fr st j ≤ 1000000 := fun j _ h2 => zPy_le hx0 hst (by omega)
  have hD0 := z_wb (r := rt) (P := 0) (j := 0) (by omega : T0 ≤ 120) hp (Nat.le_refl 0)
  refine lv_aload_n hx hb dX0_init_0 rfl (lv_at hl 0 rfl) ?_
  refine W.objInit hx hb hown (hts (.methodLink RX0 3 objectInit) (by decide +kernel)) (hts (.instanceMethod objectInit) (by decide +kernel)) (hts (.code objectInit ⟨#[0xb1]⟩ 1 none) (by decide +kernel)) rfl (hl.1.trans hml.symm) rfl dX0_init_1 (Nat.le_of_ble_eq_true rfl) (Nat.le_of_ble_eq_true rfl) ?_
  refine W.eq (g2 := F0 m 4 ls []) rfl ?_
  refine lv_aload_n hx hb dX0_init_4 rfl (lv_at hl 0 rfl) ?_
  refine lv_iload hx hb dX0_init_5 (lv_at hl 5 rfl) ?_
  refine va_putF (D := g.1) (ci := 0) (v := .int (nI rt)) (ty := .int) (C := RX0) (T := TX0) (N := 11) hx hb hts hinX0 tyX0 tyX0_ok nmX0 hown hK hP hD hS 0 rfl rfl 0 (by decide) (hts (.fieldLink RX0 9 "Usewise$Lease" "rate" "I") (by decide +kernel)) (fun _ h9 => h9) rfl hin rfl (by decide +kernel) rfl rfl (Nat.le_of_ble_eq_true rfl) dX0_init_7 (fun H locs hP hD hS => ?_)
  have hP : va_P g.1 vwCl [(h, .inr (0, [.int (nI rt), .int (nI 0), .null, .null, .int (nI 0), .int (nI 0), .long (lN 0), .long (lN 0), .long (lN 0), .long (lN 0), .long (lN 0)]))] H := hP
  have hD : va_D A [(h, .inr (0, [.int (nI rt), .int (nI 0), .null, .null, .int (nI 0), .int (nI 0), .long (lN 0), .long (lN 0), .long (lN 0), .long (lN 0), .long (lN 0)]))] := hD
  refine lv_aload_n hx hb dX0_init_10 rfl (lv_at hl 0 rfl) ?_
  refine lv_iload hx hb dX0_init_11 (lv_at hl 6 rfl) ?_
  refine va_putF (D := g.1) (ci := 0) (v := .int (nI lf)) (ty := .int) (C := RX0) (T := TX0) (N := 11) hx hb hts hinX0 tyX0 tyX0_ok nmX0 hown hK hP hD hS 0 rfl rfl 1 (by decide) (hts (.fieldLink RX0 15 "Usewise$Lease" "life" "I") (by decide +kernel)) (fun _ h9 => h9) rfl hin rfl (by decide +kernel) rfl rfl (Nat.le_of_ble_eq_true rfl) dX0_init_13 (fun H locs hP hD hS => ?_)
  have hP : va_P g.1 vwCl [(h, .inr (0, [.int (nI rt), .int (nI lf), .null, .null, .int (nI 0), .int (nI 0), .long (lN 0), .long (lN 0), .long (lN 0), .long (lN 0), .long (lN 0)]))] H := hP
  have hD : va_D A [(h, .inr (0, [.int (nI rt), .int (nI lf), .null, .null, .int (nI 0), .int (nI 0), .long (lN 0), .long (lN 0), .long (lN 0), .long (lN 0), .long (lN 0)]))] := hD
  refine lv_aload_n hx hb dX0_init_16 rfl (lv_at hl 0 rfl) ?_
  refine lv_iconst (v := nI 0) hx hb dX0_init_17 (by decide) ?_
  refine lv_iload_n hx hb dX0_init_18 rfl (lv_at hl 1 rfl) ?_
  refine lv_bipush (v := nI 120) hx hb dX0_init_19 (by decide) ?_
  refine va_mmin hx hb (hml.trans hl.1.symm) hown (hts (.methodLink RX0 18 Lib.Math.min.name) (by decide +kernel)) (hts (.static Lib.Math.min.name) (by decide +kernel)) (hts (.initialized "java/lang/Math") (by decide +kernel)) (hts (.code Lib.Math.min.name Lib.Math.min.code 2 (some .int)) (by decide +kernel)) (Nat.le_of_ble_eq_true rfl) (Nat.le_of_ble_eq_true rfl) (Nat.le_of_ble_eq_true rfl) (Nat.le_of_ble_eq_true rfl) dX0_init_21 ?_
  refine zi (y := nI T0) ((z_min (by omega) (by omega)).trans (by rw [Nat.min_eq_left (by omega)])) ?_
  refine va_mmax hx hb (hml.trans hl.1.symm) hown (hts (.methodLink RX0 24 Lib.Math.max.name) (by decide +kernel)) (hts (.static Lib.Math.max.name) (by decide +kernel)) (hts (.initialized "java/lang/Math") (by decide +kernel)) (hts (.code Lib.Math.max.name Lib.Math.max.code 2 (some .int)) (by decide +kernel)) (Nat.le_of_ble_eq_true rfl) (Nat.le_of_ble_eq_true rfl) (Nat.le_of_ble_eq_true rfl) (Nat.le_of_ble_eq_true rfl) dX0_init_24 ?_
  refine zi (y := nI T0) ((z_max (by omega) (by omega)).trans (by rw [Nat.max_eq_right (by omega)])) ?_
  refine va_put (D := g.1) (ci := 0) (v := .int (nI T0)) (ty := .int) (C := RX0) (T := TX0) (N := 11) hx hb hts hinX0 tyX0 tyX0_ok nmX0 hown hK hP hD hS 0 rfl rfl 4 (by decide) (hts (.fieldLink RX0 27 "Usewise$Lease" "term" "I") (by decide +kernel)) (fun _ h9 => h9) rfl (by decide +kernel) rfl rfl (Nat.le_of_ble_eq_true rfl) dX0_init_27 (fun H locs hP hD hS => ?_)
  have hP : va_P g.1 vwCl [(h, .inr (0, [.int (nI rt), .int (nI lf), .null, .null, .int (nI T0), .int (nI 0), .long (lN 0), .long (lN 0), .long (lN 0), .long (lN 0), .long (lN 0)]))] H := hP
  have hD : va_D A [(h, .inr (0, [.int (nI rt), .int (nI lf), .null, .null, .int (nI T0), .int (nI 0), .long (lN 0), .long (lN 0), .long (lN 0), .long (lN 0), .long (lN 0)]))] := hD
  refine lv_aload_n hx hb dX0_init_30 rfl (lv_at hl 0 rfl) ?_
  refine lv_bipush (v := nI 120) hx hb dX0_init_31 (by decide) ?_
  refine z_newI hx hb (hts (.arrayClass .int) (by decide +kernel)) hK hP hD hS hA (by omega) (Nat.le_of_ble_eq_true rfl) (Nat.le_of_ble_eq_true rfl) dX0_init_33 (fun pa H hP hD hS => ?_)
  have hP : va_P g.1 vwCl [(h, .inr (0, [.int (nI rt), .int (nI lf), .null, .null, .int (nI T0), .int (nI 0), .long (lN 0), .long (lN 0), .long (lN 0), .long (lN 0), .long (lN 0)])), (pa, .inl (g.2.1, 120, .inl (fun _ => 0)))] H := hP
  have hD : va_D A [(h, .inr (0, [.int (nI rt), .int (nI lf), .null, .null, .int (nI T0), .int (nI 0), .long (lN 0), .long (lN 0), .long (lN 0), .long (lN 0), .long (lN 0)])), (pa, .inl (g.2.1, 120, .inl (fun _ => 0)))] := hD
  refine va_putF (D := g.1) (ci := 0) (v := .ref pa) (ty := (.array .int)) (C := RX0) (T := TX0) (N := 11) hx hb hts hinX0 tyX0 tyX0_ok nmX0 hown hK hP hD hS 0 rfl rfl 2 (by decide) (hts (.fieldLink RX0 30 "Usewise$Lease" "payments" "[I") (by decide +kernel)) (fun _ h9 => h9) rfl hin rfl (by decide +kernel) rfl rfl (Nat.le_of_ble_eq_true rfl) dX0_init_35 (fun H locs hP hD hS => ?_)
  have hP : va_P g.1 vwCl [(h, .inr (0, [.int (nI rt), .int (nI lf), .ref pa, .null, .int (nI T0), .int (nI 0), .long (lN 0), .long (lN 0), .long (lN 0), .long (lN 0), .long (lN 0)])), (pa, .inl (g.2.1, 120, .inl (fun _ => 0)))] H := hP
  have hD : va_D A [(h, .inr (0, [.int (nI rt), .int (nI lf), .ref pa, .null, .int (nI T0), .int (nI 0), .long (lN 0), .long (lN 0), .long (lN 0), .long (lN 0), .long (lN 0)])), (pa, .inl (g.2.1, 120, .inl (fun _ => 0)))] := hD
  refine lv_aload_n hx hb dX0_init_38 rfl (lv_at hl 0 rfl) ?_
  refine lv_bipush (v := nI 121) hx hb dX0_init_39 (by decide) ?_
  refine z_newI hx hb (hts (.arrayClass .int) (by decide +kernel)) hK hP hD hS hA (by omega) (Nat.le_of_ble_eq_true rfl) (Nat.le_of_ble_eq_true rfl) dX0_init_41 (fun da H hP hD hS => ?_)
  have hP : va_P g.1 vwCl [(h, .inr (0, [.int (nI rt), .int (nI lf), .ref pa, .null, .int (nI T0), .int (nI 0), .long (lN 0), .long (lN 0), .long (lN 0), .long (lN 0), .long (lN 0)])), (pa, .inl (g.2.1, 120, .inl (fun _ => 0))), (da, .inl (g.2.1, 121, .inl (fun _ => 0)))] H := hP
  have hD : va_D A [(h, .inr (0, [.int (nI rt), .int (nI lf), .ref pa, .null, .int (nI T0), .int (nI 0), .long (lN 0), .long (lN 0), .long (lN 0), .long (lN 0), .long (lN 0)])), (pa, .inl (g.2.1, 120, .inl (fun _ => 0))), (da, .inl (g.2.1, 121, .inl (fun _ => 0)))] := hD
  refine va_putF (D := g.1) (ci := 0) (v := .ref da) (ty := (.array .int)) (C := RX0) (T := TX0) (N := 11) hx hb hts hinX0 tyX0 tyX0_ok nmX0 hown hK hP hD hS 0 rfl rfl 3 (by decide) (hts (.fieldLink RX0 34 "Usewise$Lease" "debts" "[I") (by decide +kernel)) (fun _ h9 => h9) rfl hin rfl (by decide +kernel) rfl rfl (Nat.le_of_ble_eq_true rfl) dX0_init_43 (fun H locs hP hD hS => ?_)
  have hP : va_P g.1 vwCl [(h, .inr (0, [.int (nI rt), .int (nI lf), .ref pa, .ref da, .int (nI T0), .int (nI 0), .long (lN 0), .long (lN 0), .long (lN 0), .long (lN 0), .long (lN 0)])), (pa, .inl (g.2.1, 120, .inl (fun _ => 0))), (da, .inl (g.2.1, 121, .inl (fun _ => 0)))] H := hP
  have hD : va_D A [(h, .inr (0, [.int (nI rt), .int (nI lf), .ref pa, .ref da, .int (nI T0), .int (nI 0), .long (lN 0), .long (lN 0), .long (lN 0), .long (lN 0), .long (lN 0)])), (pa, .inl (g.2.1, 120, .inl (fun _ => 0))), (da, .inl (g.2.1, 121, .inl (fun _ => 0)))] := hD
  refine W.widen (k := 2) (n := 241) (Nat.le_of_ble_eq_true rfl) (Nat.le_of_ble_eq_true rfl) ?_
  refine lv_iload_n hx hb dX0_init_46 rfl (lv_at hl 3 rfl) ?_
  refine lv_istore (lv' := [(8, .int (nI fr)), (0, .ref h), (1, .int (nI T0)), (2, .int (nI x0)), (3, .int (nI fr)), (4, .int (nI st)), (5, .int (nI rt)), (6, .int (nI lf)), (7, .int (nI cs))]) hx hb dX0_init_47 hl (by decide) rfl (fun ls hl => ?_)
  have loop : ∀ (n : Nat) (i : Nat) (u2 : Nat → Int32) (H : Heap) (locs : List Loc) (ls : Array Slot), 60 < i + n → fr ≤ i → i ≤ 60 → (∀ j, j < i → u2 j = nI (zPy x0 fr st j)) → va_P g.1 vwCl [(h, .inr (0, [.int (nI rt), .int (nI lf), .ref pa, .ref da, .int (nI T0), .int (nI 0), .long (lN 0), .long (lN 0), .long (lN 0), .long (lN 0), .long (lN 0)])), (pa, .inl (g.2.1, 120, .inl u2)), (da, .inl (g.2.1, 121, .inl (fun _ => 0)))] H → va_D A [(h, .inr (0, [.int (nI rt), .int (nI lf), .ref pa, .ref da, .int (nI T0), .int (nI 0), .long (lN 0), .long (lN 0), .long (lN 0), .long (lN 0), .long (lN 0)])), (pa, .inl (g.2.1, 120, .inl u2)), (da, .inl (g.2.1, 121, .inl (fun _ => 0)))] → va_S A s.heap H locs → lv_has ls 9 [(8, .int (nI i)), (0, .ref h), (1, .int (nI T0)), (2, .int (nI x0)), (3, .int (nI fr)), (4, .int (nI st)), (5, .int (nI rt)), (6, .int (nI lf)), (7, .int (nI cs))] → W p l e (headSpec wsX0_init ({ frames := 2, cells := 2, slots := 241, locals := 48 } : Room)).room s m ([.ref h, .int (nI T0), .int (nI x0), .int (nI fr), .int (nI st), .int (nI rt), .int (nI lf), .int (nI cs)] : List Value).toArray below meth c H locs 2 241 (MQ below (va_Qv (fun w => ∃ (pa da : Nat) (q' : zRaw), w = zLW g (h, pa, da) rt lf (zNew T0 x0 fr st rt cs) q' ∧ zCR rt (zNew T0 x0 fr st rt cs) q') (zOut g A) A) ([.ref h, .int (nI T0), .int (nI x0), .int (nI fr), .int (nI st), .int (nI rt), .int (nI lf), .int (nI cs)] : List Value).toArray s 2 241 A) (F0 m 49 ls []) := by
    intro n
    induction n with
    | zero =>
      intro i u2 H locs ls hn hi hi2 hu2 hP hD hS hl
      exfalso; omega
    | succ n ih =>
      intro i u2 H locs ls hn hi hi2 hu2 hP hD hS hl
      refine lv_iload hx hb dX0_init_49 (lv_at hl 0 rfl) ?_
      refine lv_aload_n hx hb dX0_init_51 rfl (lv_at hl 1 rfl) ?_
      refine va_get (D := g.1) (ci := 0) (v := .int (nI T0)) (C := RX0) (T := TX0) (N := 11) hx hb hts hinX0 hown hK hP 0 rfl rfl 4 (by decide) (hts (.fieldLink RX0 27 "Usewise$Lease" "term" "I") (by decide +kernel)) (fun _ h9 => h9) rfl dX0_init_52 ?_
      refine z_icmp_ge (tgt := 83) hx hb dX0_init_55 (by decide) (by omega) (by omega) (fun hc => ?_) (fun hc => ?_)
      · have hu : ∀ j, 0 ≤ j → j < T0 → u2 j = nI (zPy x0 fr st j) := fun j _ h2 => hu2 j (by omega)
        refine lv_aload_n hx hb dX0_init_83 rfl (lv_at hl 1 rfl) ?_
        refine z_av (wa := []) (wc := [(h, .inr (0, [.int (nI rt), .int (nI lf), .ref pa, .ref da, .int (nI T0), .int (nI 0), .long (lN 0), .long (lN 0), .long (lN 0), .long (lN 0), .long (lN 0)])), (pa, .inl (g.2.1, 120, .inl u2)), (da, .inl (g.2.1, 121, .inl (fun _ => 0)))]) (wb := []) (va_runV (As := []) (rest := []) ⟨hx, hb, hml, hown, hts⟩ (c_layDebts l g h pa da rt lf T0 0 (lN 0) (lN 0) (lN 0) (lN 0) (lN 0) u2 (fun _ => 0) (zPy x0 fr st) (by omega) (Nat.zero_le _) hp hu hrt H.size _ rfl) (cwV 0 hts gX0_init_X0_layDebts rfl rfl rfl (by decide +kernel) ⟨Nat.le_of_ble_eq_true rfl, Nat.le_of_ble_eq_true rfl⟩) (zpreV (wa := []) (wc := [(h, .inr (0, [.int (nI rt), .int (nI lf), .ref pa, .ref da, .int (nI T0), .int (nI 0), .long (lN 0), .long (lN 0), .long (lN 0), .long (lN 0), .long (lN 0)])), (pa, .inl (g.2.1, 120, .inl u2)), (da, .inl (g.2.1, 121, .inl (fun _ => 0)))]) (wb := []) (q0 := 0) (ci := 0) (T := TX0) (N := 11) hK hP hD rfl rfl) rfl rfl hl.1 rfl (lv_room (Nat.le_of_ble_eq_true rfl)) dX0_init_84 ⟨Nat.le_of_ble_eq_true rfl, Nat.le_of_ble_eq_true rfl⟩) hP hD hS hA (fun w1 H locs hq hP hD hS => ?_)
        obtain ⟨v2, rfl, hv2⟩ := hq
        have hP : va_P g.1 vwCl [(h, .inr (0, [.int (nI rt), .int (nI lf), .ref pa, .ref da, .int (nI T0), .int (nI 0), .long (lN 0), .long (lN 0), .long (lN 0), .long (lN 0), .long (lN 0)])), (pa, .inl (g.2.1, 120, .inl u2)), (da, .inl (g.2.1, 121, .inl v2))] H := hP
        have hD : va_D A [(h, .inr (0, [.int (nI rt), .int (nI lf), .ref pa, .ref da, .int (nI T0), .int (nI 0), .long (lN 0), .long (lN 0), .long (lN 0), .long (lN 0), .long (lN 0)])), (pa, .inl (g.2.1, 120, .inl u2)), (da, .inl (g.2.1, 121, .inl v2))] := hD
        refine lv_aload_n hx hb dX0_init_87 rfl (lv_at hl 1 rfl) ?_
        refine lv_aload_n hx hb dX0_init_88 rfl (lv_at hl 1 rfl) ?_
        refine z_ai (wa := []) (wc := [(h, .inr (0, [.int (nI rt), .int (nI lf), .ref pa, .ref da, .int (nI T0), .int (nI 0), .long (lN 0), .long (lN 0), .long (lN 0), .long (lN 0), .long (lN 0)])), (pa, .inl (g.2.1, 120, .inl u2)), (da, .inl (g.2.1, 121, .inl v2))]) (wb := []) (va_runV (As := []) (rest := [.ref h]) ⟨hx, hb, hml, hown, hts⟩ (c_debtNow l g h pa da rt lf T0 0 (lN 0) (lN 0) (lN 0) (lN 0) (lN 0) u2 v2 (by omega) H.size _ rfl) (cwV 0 hts gX0_init_X0_debtNow rfl rfl rfl (by decide +kernel) ⟨Nat.le_of_ble_eq_true rfl, Nat.le_of_ble_eq_true rfl⟩) (zpreV (wa := []) (wc := [(h, .inr (0, [.int (nI rt), .int (nI lf), .ref pa, .ref da, .int (nI T0), .int (nI 0), .long (lN 0), .long (lN 0), .long (lN 0), .long (lN 0), .long (lN 0)])), (pa, .inl (g.2.1, 120, .inl u2)), (da, .inl (g.2.1, 121, .inl v2))]) (wb := []) (q0 := 0) (ci := 0) (T := TX0) (N := 11) hK hP hD rfl rfl) rfl rfl hl.1 rfl (lv_room (Nat.le_of_ble_eq_true rfl)) dX0_init_89 ⟨Nat.le_of_ble_eq_true rfl, Nat.le_of_ble_eq_true rfl⟩) hP hD hS hA (fun r_2 w1 H locs hq hP hD hS => ?_)
        obtain ⟨rfl, rfl⟩ := hq
        have hP : va_P g.1 vwCl [(h, .inr (0, [.int (nI rt), .int (nI lf), .ref pa, .ref da, .int (nI T0), .int (nI 0), .long (lN 0), .long (lN 0), .long (lN 0), .long (lN 0), .long (lN 0)])), (pa, .inl (g.2.1, 120, .inl u2)), (da, .inl (g.2.1, 121, .inl v2))] H := hP
        have hD : va_D A [(h, .inr (0, [.int (nI rt), .int (nI lf), .ref pa, .ref da, .int (nI T0), .int (nI 0), .long (lN 0), .long (lN 0), .long (lN 0), .long (lN 0), .long (lN 0)])), (pa, .inl (g.2.1, 120, .inl u2)), (da, .inl (g.2.1, 121, .inl v2))] := hD
        refine zi (y := nI (zWr rt (zPy x0 fr st) T0 (T0 - 0))) (hv2 0 (by omega) (by omega)) ?_
        refine z_i2l hx hb dX0_init_92 (by omega) ?_
        refine lv_iload hx hb dX0_init_93 (lv_at hl 8 rfl) ?_
        refine z_i2l hx hb dX0_init_95 (by omega) ?_
        refine z_ladd hx hb dX0_init_96 ?_
        refine va_put (D := g.1) (ci := 0) (v := .long (lN (zWr rt (zPy x0 fr st) T0 (T0 - 0) + cs))) (ty := .long) (C := RX0) (T := TX0) (N := 11) hx hb hts hinX0 tyX0 tyX0_ok nmX0 hown hK hP hD hS 0 rfl rfl 6 (by decide) (hts (.fieldLink RX0 48 "Usewise$Lease" "right" "J") (by decide +kernel)) (fun _ h9 => h9) rfl (by decide +kernel) rfl rfl (Nat.le_of_ble_eq_true rfl) dX0_init_97 (fun H locs hP hD hS => ?_)
        have hP : va_P g.1 vwCl [(h, .inr (0, [.int (nI rt), .int (nI lf), .ref pa, .ref da, .int (nI T0), .int (nI 0), .long (lN (zWr rt (zPy x0 fr st) T0 (T0 - 0) + cs)), .long (lN 0), .long (lN 0), .long (lN 0), .long (lN 0)])), (pa, .inl (g.2.1, 120, .inl u2)), (da, .inl (g.2.1, 121, .inl v2))] H := hP
        have hD : va_D A [(h, .inr (0, [.int (nI rt), .int (nI lf), .ref pa, .ref da, .int (nI T0), .int (nI 0), .long (lN (zWr rt (zPy x0 fr st) T0 (T0 - 0) + cs)), .long (lN 0), .long (lN 0), .long (lN 0), .long (lN 0)])), (pa, .inl (g.2.1, 120, .inl u2)), (da, .inl (g.2.1, 121, .inl v2))] := hD
        exact z_vret hx hb hr hP hK hD hS dX0_init_100 hlocks (⟨pa, da, (lN 0, lN 0, lN 0, lN 0, u2, v2), rfl, lN_i 0, lN_i 0, lN_i 0, lN_i 0, hu, hv2⟩)
      · refine lv_aload_n hx hb dX0_init_58 rfl (lv_at hl 1 rfl) ?_
        refine va_get (D := g.1) (ci := 0) (v := .ref pa) (C := RX0) (T := TX0) (N := 11) hx hb hts hinX0 hown hK hP 0 rfl rfl 2 (by decide) (hts (.fieldLink RX0 30 "Usewise$Lease" "payments" "[I") (by decide +kernel)) (fun _ h9 => h9) rfl dX0_init_59 ?_
        refine lv_iload hx hb dX0_init_62 (lv_at hl 0 rfl) ?_
        refine lv_iload_n hx hb dX0_init_64 rfl (lv_at hl 3 rfl) ?_
        refine lv_iload hx hb dX0_init_65 (lv_at hl 5 rfl) ?_
        refine lv_iload hx hb dX0_init_67 (lv_at hl 0 rfl) ?_
        refine lv_bipush (v := nI 12) hx hb dX0_init_69 (by decide) ?_
        refine z_idiv hx hb dX0_init_71 (by omega) (by omega) (by omega) ?_
        refine z_imul hx hb dX0_init_72 ?_
        refine z_iadd hx hb dX0_init_73 ?_
        refine z_av (wa := [(h, .inr (0, [.int (nI rt), .int (nI lf), .ref pa, .ref da, .int (nI T0), .int (nI 0), .long (lN 0), .long (lN 0), .long (lN 0), .long (lN 0), .long (lN 0)]))]) (wc := [(pa, .inl (g.2.1, 120, .inl u2))]) (wb := [(da, .inl (g.2.1, 121, .inl (fun _ => 0)))]) (va_runS (As := [.ref pa, .int (nI i), .int (nI (x0 + (st * (i / 12))))]) (rest := []) ⟨hx, hb, hml, hown, hts⟩ (c_put l g pa 120 i (nI (x0 + (st * (i / 12)))) u2 (by omega) (by decide) H.size _ rfl) (va_cwS 3 hts gX0_init_X0_put rfl rfl rfl (by decide +kernel) ⟨Nat.le_of_ble_eq_true rfl, Nat.le_of_ble_eq_true rfl⟩) (zpreS (wa := [(h, .inr (0, [.int (nI rt), .int (nI lf), .ref pa, .ref da, .int (nI T0), .int (nI 0), .long (lN 0), .long (lN 0), .long (lN 0), .long (lN 0), .long (lN 0)]))]) (wc := [(pa, .inl (g.2.1, 120, .inl u2))]) (wb := [(da, .inl (g.2.1, 121, .inl (fun _ => 0)))]) hK hP hD) rfl rfl hl.1 rfl (lv_room (Nat.le_of_ble_eq_true rfl)) dX0_init_74 ⟨Nat.le_of_ble_eq_true rfl, Nat.le_of_ble_eq_true rfl⟩) hP hD hS hA (fun w1 H locs hq hP hD hS => ?_)
        obtain rfl := hq
        have hP : va_P g.1 vwCl [(h, .inr (0, [.int (nI rt), .int (nI lf), .ref pa, .ref da, .int (nI T0), .int (nI 0), .long (lN 0), .long (lN 0), .long (lN 0), .long (lN 0), .long (lN 0)])), (pa, .inl (g.2.1, 120, .inl (upd u2 i (nI (x0 + (st * (i / 12))))))), (da, .inl (g.2.1, 121, .inl (fun _ => 0)))] H := hP
        have hD : va_D A [(h, .inr (0, [.int (nI rt), .int (nI lf), .ref pa, .ref da, .int (nI T0), .int (nI 0), .long (lN 0), .long (lN 0), .long (lN 0), .long (lN 0), .long (lN 0)])), (pa, .inl (g.2.1, 120, .inl (upd u2 i (nI (x0 + (st * (i / 12))))))), (da, .inl (g.2.1, 121, .inl (fun _ => 0)))] := hD
        refine z_iinc (lv' := [(8, .int (nI (i + 1))), (0, .ref h), (1, .int (nI T0)), (2, .int (nI x0)), (3, .int (nI fr)), (4, .int (nI st)), (5, .int (nI rt)), (6, .int (nI lf)), (7, .int (nI cs))]) hx hb dX0_init_77 hl (k := 0) rfl (by decide) rfl (fun ls hl => ?_)
        refine lv_goto (tgt := 49) hx hb dX0_init_80 (by decide) ?_
        exact ih (i + 1) (upd u2 i (nI (x0 + (st * (i / 12))))) H _ _ (by omega) (by omega) (by omega) (fun j h1 => if hj : j = i then (by rw [hj, z_upd_s]; unfold zPy; rw [if_neg (by omega)]) else (by rw [z_upd_n _ _ hj]; exact hu2 j (by omega))) hP hD hS (lv_sub hl [0, 1, 2, 3, 4, 5, 6, 7, 8] rfl)
  exact loop 61 fr _ H _ _ (by omega) (by omega) (by omega) (fun j h1 => by unfold zPy; rw [if_pos h1]; rfl) hP hD hS (lv_sub hl [0, 1, 2, 3, 4, 5, 6, 7, 8] rfl)
