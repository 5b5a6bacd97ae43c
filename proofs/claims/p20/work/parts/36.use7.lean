/-! the class Usewise: months pass -/
/-- the cells of the first n leases -/
def zLs (g : zG) (n : Nat) (aa : Nat → Nat × Nat × Nat) (rr ff : Nat → Nat) (zz : Nat → zS) (qq : Nat → zRaw) : va_W := (List.range n).flatMap fun k => zLW g (aa k) (rr k) (ff k) (zz k) (qq k)
/-- .. of those from lo on -/
def zLt (g : zG) (lo n : Nat) (aa : Nat → Nat × Nat × Nat) (rr ff : Nat → Nat) (zz : Nat → zS) (qq : Nat → zRaw) : va_W := (List.range' lo n).flatMap fun k => zLW g (aa k) (rr k) (ff k) (zz k) (qq k)
theorem z_flat {α β : Type} {f f' : α → List β} {l : List α} (h : ∀ x ∈ l, f x = f' x) : l.flatMap f = l.flatMap f' := by
  induction l with
  | nil => rfl
  | cons a t ih => rw [List.flatMap_cons, List.flatMap_cons, h a (by simp), ih (fun x hx => h x (by simp [hx]))]
theorem zLs_s (g : zG) (n : Nat) (aa : Nat → Nat × Nat × Nat) (rr ff : Nat → Nat) (zz : Nat → zS) (qq : Nat → zRaw) : zLs g (n + 1) aa rr ff zz qq = zLs g n aa rr ff zz qq ++ zLW g (aa n) (rr n) (ff n) (zz n) (qq n) := by
  unfold zLs
  rw [List.range_succ, List.flatMap_append, List.flatMap_cons, List.flatMap_nil, List.append_nil]
theorem zLs_at {g : zG} {n i : Nat} {aa : Nat → Nat × Nat × Nat} {rr ff : Nat → Nat} {zz : Nat → zS} {qq : Nat → zRaw} (hi : i < n) (X : va_W) : X ++ zLs g n aa rr ff zz qq = (X ++ zLs g i aa rr ff zz qq) ++ zLW g (aa i) (rr i) (ff i) (zz i) (qq i) ++ zLt g (i + 1) (n - (i + 1)) aa rr ff zz qq := by
  have e : List.range n = (List.range i ++ [i]) ++ List.range' (i + 1) (n - (i + 1)) := by
    have e2 := List.range'_append_1 (s := 0) (m := i + 1) (n := n - (i + 1))
    rw [Nat.zero_add, show i + 1 + (n - (i + 1)) = n by omega] at e2
    rw [← List.range_succ, List.range_eq_range', List.range_eq_range', e2]
  unfold zLs zLt
  rw [e, List.flatMap_append, List.flatMap_append, List.flatMap_cons, List.flatMap_nil, List.append_nil]
  simp only [List.append_assoc]
theorem zLs_put {g : zG} {n i : Nat} {aa : Nat → Nat × Nat × Nat} {rr ff : Nat → Nat} {zz : Nat → zS} {qq : Nat → zRaw} (hi : i < n) (X : va_W) (z' : zS) (q' : zRaw) : (X ++ zLs g i aa rr ff zz qq) ++ zLW g (aa i) (rr i) (ff i) z' q' ++ zLt g (i + 1) (n - (i + 1)) aa rr ff zz qq = X ++ zLs g n aa rr ff (va_up zz i z') (va_up qq i q') := by
  rw [zLs_at hi X, va_up_self, va_up_self]
  have e1 : zLs g i aa rr ff (va_up zz i z') (va_up qq i q') = zLs g i aa rr ff zz qq := z_flat fun k hk => by
    have := List.mem_range.mp hk
    rw [va_up_ne _ _ (by omega), va_up_ne _ _ (by omega)]
  have e2 : zLt g (i + 1) (n - (i + 1)) aa rr ff (va_up zz i z') (va_up qq i q') = zLt g (i + 1) (n - (i + 1)) aa rr ff zz qq := z_flat fun k hk => by
    have := List.mem_range'_1.mp hk
    rw [va_up_ne _ _ (by omega), va_up_ne _ _ (by omega)]
  rw [e1, e2]
theorem t_endsWithin (l : Launch) (g : zG) (a : Nat × Nat × Nat) (rt lf : Nat) (z : zS) (q : zRaw) (k0 : Nat) (hZ : zInv rt lf z) (hC : zCR rt z q) (hk0 : 1 ≤ k0 ∧ k0 ≤ 24) : zMi l yX0_endsWithin wsX0_endsWithin ({ frames := 3, cells := 0, slots := 0, locals := 70 } : Room) [.ref a.1, .int (nI k0)] g (zLW g a rt lf z q) (fun r w => (∃ q', w = zLW g a rt lf (zIt rt lf (min k0 (z.1 - z.2.1)) z) q' ∧ zCR rt (zIt rt lf (min k0 (z.1 - z.2.1)) z) q') ∧ ((0 < z.1 - z.2.1 ∧ z.1 - z.2.1 ≤ k0 ∧ r = nI 1) ∨ (¬ (0 < z.1 - z.2.1 ∧ z.1 - z.2.1 ≤ k0) ∧ r = nI 0))) 0 0 := by
  obtain ⟨h, pa, da⟩ := a
  obtain ⟨T, P, py, R0, I, Pd, Wn, G⟩ := z
  obtain ⟨xI, xP, xW, xG, u, v⟩ := q
  exact c_endsWithin l g h pa da rt lf T P R0 py I Pd Wn G xI xP xW xG u v k0 hZ hC hk0
/-- a lease behind n months -/
def zPs (rt lf n : Nat) (z : zS) : zS := zIt rt lf (min n (z.1 - z.2.1)) z
/-- how many of the first k are over in n months -/
def zOv (n : Nat) (zz : Nat → zS) : Nat → Nat
  | 0 => 0
  | k + 1 => zOv n zz k + if 0 < (zz k).1 - (zz k).2.1 ∧ (zz k).1 - (zz k).2.1 ≤ n then 1 else 0
theorem zOv_le (n : Nat) (zz : Nat → zS) : ∀ k, zOv n zz k ≤ k
  | 0 => Nat.le_refl _
  | k + 1 => by
    have := zOv_le n zz k
    unfold zOv
    split <;> omega
set_option maxHeartbeats 4000000 in
set_option maxRecDepth 100000 in
theorem c_pass (l : Launch) (hst : l.stackTraces = false) (g : zG) (ua ar cnt : Nat) (rows : Nat → Option Nat) (aa : Nat → Nat × Nat × Nat) (rr ff : Nat → Nat) (zz : Nat → zS) (qq : Nat → zRaw) (x1 : Int32) (hcnt : cnt ≤ 6) (hrow : ∀ k, k < cnt → rows k = some (aa k).1) (hnone : ∀ k, cnt ≤ k → k < 6 → rows k = none) (hZ : ∀ k, k < cnt → zInv (rr k) (ff k) (zz k)) (hC : ∀ k, k < cnt → zCR (rr k) (zz k) (qq k)) : zXi l yX1_pass wsX1_pass ({ frames := 7, cells := 1, slots := 6, locals := 125 } : Room) [.ref ua, .int x1] g ([(ua, .inr (1, [.ref ar, .int (nI cnt)])), (ar, .inl (g.2.2.1, 6, .inr (.inr (.inr (.inr rows)))))] ++ (zLs g cnt aa rr ff zz qq)) (fun q w => (nI 1 ≤ x1 ∧ x1 ≤ nI 24) ∧ q = nI (zOv (zN x1) zz cnt) ∧ ∃ qq', w = ([(ua, .inr (1, [.ref ar, .int (nI cnt)])), (ar, .inl (g.2.2.1, 6, .inr (.inr (.inr (.inr rows)))))] ++ (zLs g cnt aa rr ff (fun k => zPs (rr k) (ff k) (zN x1) (zz k)) qq')) ∧ ∀ k, k < cnt → zCR (rr k) ((fun k => zPs (rr k) (ff k) (zN x1) (zz k)) k) (qq' k)) (fun E => E = "java/lang/IllegalArgumentException" ∧ ¬ (nI 1 ≤ x1 ∧ x1 ≤ nI 24)) 1 6 := by
  intro sz A hAe
  refine vx_ofW (cc := cX1_pass) (maxL := 7) (ret := some .int) (by decide) rfl ?_
  intro p e s m args below meth c s₁ B hml hout hv
  obtain ⟨rfl, ⟨hsz, hP, hK, hD0⟩, hX⟩ := hv
  have hx := B.exec
  have hb := B.bytes
  have hr := B.returns
  have hts := atoms_spec (ws := wsX1_pass) B.pre
  have hown : s.vm.findClass RX1 = some m.cls := findClass_of_methodNamed B.named
  have hlocks := B.notSynchronized
  obtain ⟨hD, hA, hS⟩ := z_in hsz hAe hD0
  have hl := lv_entry ([.ref ua, .int x1]) (n := 7) (Nat.le_of_ble_eq_true rfl)
  rw [lg_entry_eq]
  generalize (lg_sl ([.ref ua, .int x1]) ++ List.replicate (7 - (lg_sl ([.ref ua, .int x1])).length) Slot.unset).toArray = ls at hl ⊢
  have hl : lv_has ls 7 [(0, .ref ua), (1, .int x1)] := hl
  have hinX1 : ∀ w ∈ wsX10, w ∈ wsX1_pass := by decide +kernel
  refine lv_iload_n hx hb dX1_pass_0 rfl (lv_at hl 1 rfl) ?_
  refine lv_iconst (v := nI 1) hx hb dX1_pass_1 (by decide) ?_
  refine lv_bipush (v := nI 24) hx hb dX1_pass_2 (by decide) ?_
  refine z_axv (wa := []) (wc := []) (wb := ([(ua, .inr (1, [.ref ar, .int (nI cnt)])), (ar, .inl (g.2.2.1, 6, .inr (.inr (.inr (.inr rows)))))] ++ (zLs g cnt aa rr ff zz qq))) (vx_runS (As := [.int x1, .int (nI 1), .int (nI 24)]) (rest := []) ⟨hx, hb, hml, hown, hts⟩ (c_mustBeWithin l hst g x1 (nI 1) (nI 24) s.heap.size _ rfl) (va_cwS 3 hts gX1_pass_X1_mustBeWithin rfl rfl rfl (by decide +kernel) ⟨Nat.le_of_ble_eq_true rfl, Nat.le_of_ble_eq_true rfl⟩) (zpreXS (wa := []) (wc := []) (wb := ([(ua, .inr (1, [.ref ar, .int (nI cnt)])), (ar, .inl (g.2.2.1, 6, .inr (.inr (.inr (.inr rows)))))] ++ (zLs g cnt aa rr ff zz qq))) hK hP hD hS hA hX) rfl rfl hl.1 rfl (lv_room (Nat.le_of_ble_eq_true rfl)) dX1_pass_4 ⟨Nat.le_of_ble_eq_true rfl, Nat.le_of_ble_eq_true rfl⟩) hP hD hS hA (fun E ce q9 H locs hE hP hD hS hc1 hc2 hc3 => ?_) (fun w1 H locs hq hP hD hS => ?_)
  · exact z_out hout hP hK hD hS hlocks hc1 hc2 hc3 hE (Nat.le_of_ble_eq_true rfl) (Nat.le_of_ble_eq_true rfl)
  · obtain ⟨hrng, rfl⟩ := hq
    have hP : va_P g.1 vwCl ([(ua, .inr (1, [.ref ar, .int (nI cnt)])), (ar, .inl (g.2.2.1, 6, .inr (.inr (.inr (.inr rows)))))] ++ (zLs g cnt aa rr ff zz qq)) H := hP
    have hD : va_D A ([(ua, .inr (1, [.ref ar, .int (nI cnt)])), (ar, .inl (g.2.2.1, 6, .inr (.inr (.inr (.inr rows)))))] ++ (zLs g cnt aa rr ff zz qq)) := hD
    obtain ⟨e1, h11, h12⟩ := zN_in (by decide) (by decide) hrng
    refine lv_iconst (v := nI 0) hx hb dX1_pass_7 (by decide) ?_
    refine lv_istore_n (lv' := [(2, .int (nI 0)), (0, .ref ua), (1, .int x1)]) hx hb dX1_pass_8 rfl hl (by decide) rfl (fun ls hl => ?_)
    refine lv_aload_n hx hb dX1_pass_9 rfl (lv_at hl 1 rfl) ?_
    refine va_get (D := g.1) (ci := 1) (v := .ref ar) (C := RX1) (T := TX1) (N := 2) hx hb hts hinX1 hown hK hP 0 rfl rfl 0 (by decide) (hts (.fieldLink RX1 11 "Usewise" "leases" "[LUsewise$Lease;") (by decide +kernel)) (fun _ h9 => h9) rfl dX1_pass_10 ?_
    refine lv_astore_n (lv' := [(3, .ref ar), (2, .int (nI 0)), (0, .ref ua), (1, .int x1)]) hx hb dX1_pass_13 rfl hl (by decide) rfl (fun ls hl => ?_)
    refine lv_aload_n hx hb dX1_pass_14 rfl (lv_at hl 0 rfl) ?_
    refine va_alen (v := nI 6) hx hb hK hP 1 1 rfl rfl rfl dX1_pass_15 ?_
    refine lv_istore (lv' := [(4, .int (nI 6)), (3, .ref ar), (2, .int (nI 0)), (0, .ref ua), (1, .int x1)]) hx hb dX1_pass_16 hl (by decide) rfl (fun ls hl => ?_)
    refine lv_iconst (v := nI 0) hx hb dX1_pass_18 (by decide) ?_
    refine lv_istore (lv' := [(5, .int (nI 0)), (4, .int (nI 6)), (3, .ref ar), (2, .int (nI 0)), (0, .ref ua), (1, .int x1)]) hx hb dX1_pass_19 hl (by decide) rfl (fun ls hl => ?_)
    have loop : ∀ (n : Nat) (i : Nat) (zz2 : Nat → zS) (qq2 : Nat → zRaw) (H : Heap) (locs : List Loc) (ls : Array Slot), 6 < i + n → i ≤ 6 → (∀ k, k < min i cnt → zz2 k = zPs (rr k) (ff k) (zN x1) (zz k)) → (∀ k, i ≤ k → zz2 k = zz k) → (∀ k, k < cnt → zCR (rr k) (zz2 k) (qq2 k)) → va_P g.1 vwCl ([(ua, .inr (1, [.ref ar, .int (nI cnt)])), (ar, .inl (g.2.2.1, 6, .inr (.inr (.inr (.inr rows)))))] ++ (zLs g cnt aa rr ff zz2 qq2)) H → va_D A ([(ua, .inr (1, [.ref ar, .int (nI cnt)])), (ar, .inl (g.2.2.1, 6, .inr (.inr (.inr (.inr rows)))))] ++ (zLs g cnt aa rr ff zz2 qq2)) → va_S A s.heap H locs → lv_has ls 7 [(5, .int (nI i)), (2, .int (nI (zOv (zN x1) zz (min i cnt)))), (4, .int (nI 6)), (3, .ref ar), (0, .ref ua), (1, .int x1)] → W p l e (headSpec wsX1_pass ({ frames := 7, cells := 1, slots := 6, locals := 125 } : Room)).room s m ([.ref ua, .int x1] : List Value).toArray below meth c H locs 1 6 (vx_MQ below (va_Qi (fun q w => (nI 1 ≤ x1 ∧ x1 ≤ nI 24) ∧ q = nI (zOv (zN x1) zz cnt) ∧ ∃ qq', w = ([(ua, .inr (1, [.ref ar, .int (nI cnt)])), (ar, .inl (g.2.2.1, 6, .inr (.inr (.inr (.inr rows)))))] ++ (zLs g cnt aa rr ff (fun k => zPs (rr k) (ff k) (zN x1) (zz k)) qq')) ∧ ∀ k, k < cnt → zCR (rr k) ((fun k => zPs (rr k) (ff k) (zN x1) (zz k)) k) (qq' k)) (zOut g A) A) (zQX g ([(ua, .inr (1, [.ref ar, .int (nI cnt)])), (ar, .inl (g.2.2.1, 6, .inr (.inr (.inr (.inr rows)))))] ++ (zLs g cnt aa rr ff zz qq)) (fun E => E = "java/lang/IllegalArgumentException" ∧ ¬ (nI 1 ≤ x1 ∧ x1 ≤ nI 24)) A) ([.ref ua, .int x1] : List Value).toArray s 1 6 A) (F0 m 21 ls []) := by
      intro n
      induction n with
      | zero =>
        intro i zz2 qq2 H locs ls hn hi hz1 hz2 hC2 hP hD hS hl
        exfalso; omega
      | succ n ih =>
        intro i zz2 qq2 H locs ls hn hi hz1 hz2 hC2 hP hD hS hl
        have ho := zOv_le (zN x1) zz (min i cnt)
        refine lv_iload hx hb dX1_pass_21 (lv_at hl 0 rfl) ?_
        refine lv_iload hx hb dX1_pass_23 (lv_at hl 2 rfl) ?_
        refine z_icmp_ge (tgt := 57) hx hb dX1_pass_25 (by decide) (by omega) (by omega) (fun hc => ?_) (fun hc => ?_)
        · have hi6 : i = 6 := by omega
          have hmin : min i cnt = cnt := by omega
          refine lv_iload_n hx hb dX1_pass_57 rfl (lv_at hl 1 rfl) ?_
          refine zi (y := nI (zOv (zN x1) zz cnt)) (by rw [hmin]) ?_
          have ez : zLs g cnt aa rr ff zz2 qq2 = zLs g cnt aa rr ff (fun k => zPs (rr k) (ff k) (zN x1) (zz k)) qq2 := z_flat fun k hk => by rw [hz1 k (by have := List.mem_range.mp hk; omega)]
          rw [ez] at hP hD
          exact z_xiret hx hb hr hP hK hD hS dX1_pass_58 hlocks (⟨hrng, rfl, qq2, rfl, fun k hk => by have z := hC2 k hk; rw [hz1 k (by omega)] at z; exact z⟩)
        · refine lv_aload_n hx hb dX1_pass_28 rfl (lv_at hl 3 rfl) ?_
          refine lv_iload hx hb dX1_pass_29 (lv_at hl 0 rfl) ?_
          refine z_aald hx hb hK hP 1 1 rfl rfl hc (by decide) dX1_pass_31 ?_
          rcases Nat.lt_or_ge i cnt with hl1 | hl1
          · rw [hrow i hl1]
            refine zqs ?_
            refine lv_astore (lv' := [(6, .ref ((aa i).1)), (5, .int (nI i)), (2, .int (nI (zOv (zN x1) zz (min i cnt)))), (4, .int (nI 6)), (3, .ref ar), (0, .ref ua), (1, .int x1)]) hx hb dX1_pass_32 hl (by decide) rfl (fun ls hl => ?_)
            refine lv_aload hx hb dX1_pass_34 (lv_at hl 0 rfl) ?_
            refine lv_ifnull hx hb dX1_pass_36 ?_
            refine lv_aload hx hb dX1_pass_39 (lv_at hl 0 rfl) ?_
            refine lv_iload_n hx hb dX1_pass_41 rfl (lv_at hl 6 rfl) ?_
            refine zi (y := nI (zN x1)) (e1) ?_
            rw [zLs_at hl1] at hP hD
            have hz2i : zz2 i = zz i := hz2 i (Nat.le_refl i)
            refine z_ai (wa := (([(ua, .inr (1, [.ref ar, .int (nI cnt)])), (ar, .inl (g.2.2.1, 6, .inr (.inr (.inr (.inr rows)))))] ++ zLs g i aa rr ff zz2 qq2))) (wc := (zLW g (aa i) (rr i) (ff i) (zz2 i) (qq2 i))) (wb := ((zLt g (i + 1) (cnt - (i + 1)) aa rr ff zz2 qq2))) (va_runV (As := [.int (nI (zN x1))]) (rest := []) ⟨hx, hb, hml, hown, hts⟩ (t_endsWithin l g (aa i) (rr i) (ff i) (zz2 i) (qq2 i) (zN x1) (by rw [hz2i]; exact hZ i hl1) (hC2 i hl1) ⟨h11, h12⟩ H.size _ rfl) (cwV 1 hts gX1_pass_X0_endsWithin rfl rfl rfl (by decide +kernel) ⟨Nat.le_of_ble_eq_true rfl, Nat.le_of_ble_eq_true rfl⟩) (zpreV (wa := (([(ua, .inr (1, [.ref ar, .int (nI cnt)])), (ar, .inl (g.2.2.1, 6, .inr (.inr (.inr (.inr rows)))))] ++ zLs g i aa rr ff zz2 qq2))) (wc := (zLW g (aa i) (rr i) (ff i) (zz2 i) (qq2 i))) (wb := ((zLt g (i + 1) (cnt - (i + 1)) aa rr ff zz2 qq2))) (q0 := 0) (ci := 0) (T := TX0) (N := 11) hK hP hD rfl rfl) rfl rfl hl.1 rfl (lv_room (Nat.le_of_ble_eq_true rfl)) dX1_pass_42 ⟨Nat.le_of_ble_eq_true rfl, Nat.le_of_ble_eq_true rfl⟩) hP hD hS hA (fun rb w1 H locs hq hP hD hS => ?_)
            obtain ⟨⟨q', rfl, hC3⟩, hcase⟩ := hq
            have hP : va_P g.1 vwCl ((([(ua, .inr (1, [.ref ar, .int (nI cnt)])), (ar, .inl (g.2.2.1, 6, .inr (.inr (.inr (.inr rows)))))] ++ zLs g i aa rr ff zz2 qq2)) ++ (zLW g (aa i) (rr i) (ff i) (zIt (rr i) (ff i) (min (zN x1) ((zz2 i).1 - (zz2 i).2.1)) (zz2 i)) q') ++ ((zLt g (i + 1) (cnt - (i + 1)) aa rr ff zz2 qq2))) H := hP
            have hD : va_D A ((([(ua, .inr (1, [.ref ar, .int (nI cnt)])), (ar, .inl (g.2.2.1, 6, .inr (.inr (.inr (.inr rows)))))] ++ zLs g i aa rr ff zz2 qq2)) ++ (zLW g (aa i) (rr i) (ff i) (zIt (rr i) (ff i) (min (zN x1) ((zz2 i).1 - (zz2 i).2.1)) (zz2 i)) q') ++ ((zLt g (i + 1) (cnt - (i + 1)) aa rr ff zz2 qq2))) := hD
            rw [zLs_put hl1] at hP hD
            rw [hz2i] at hcase hC3 hP hD
            have hP : va_P g.1 vwCl ([(ua, .inr (1, [.ref ar, .int (nI cnt)])), (ar, .inl (g.2.2.1, 6, .inr (.inr (.inr (.inr rows)))))] ++ (zLs g cnt aa rr ff (va_up zz2 i (zPs (rr i) (ff i) (zN x1) (zz i))) (va_up qq2 i q'))) H := hP
            have hD : va_D A ([(ua, .inr (1, [.ref ar, .int (nI cnt)])), (ar, .inl (g.2.2.1, 6, .inr (.inr (.inr (.inr rows)))))] ++ (zLs g cnt aa rr ff (va_up zz2 i (zPs (rr i) (ff i) (zN x1) (zz i))) (va_up qq2 i q'))) := hD
            have nz1 : ∀ k, k < min (i + 1) cnt → (va_up zz2 i (zPs (rr i) (ff i) (zN x1) (zz i))) k = zPs (rr k) (ff k) (zN x1) (zz k) := fun k hk => if h : k = i then (by rw [h, va_up_self]) else (by rw [va_up_ne _ _ h]; exact hz1 k (by omega))
            have nz2 : ∀ k, i + 1 ≤ k → (va_up zz2 i (zPs (rr i) (ff i) (zN x1) (zz i))) k = zz k := fun k hk => by rw [va_up_ne _ _ (by omega)]; exact hz2 k (by omega)
            have nC : ∀ k, k < cnt → zCR (rr k) ((va_up zz2 i (zPs (rr i) (ff i) (zN x1) (zz i))) k) ((va_up qq2 i q') k) := fun k hk => if h : k = i then (by rw [h, va_up_self, va_up_self]; exact hC3) else (by rw [va_up_ne _ _ h, va_up_ne _ _ h]; exact hC2 k hk)
            have hm1 : min i cnt = i := by omega
            have hm2 : min (i + 1) cnt = i + 1 := by omega
            have hov : zOv (zN x1) zz (i + 1) = zOv (zN x1) zz i + if 0 < (zz i).1 - (zz i).2.1 ∧ (zz i).1 - (zz i).2.1 ≤ zN x1 then 1 else 0 := rfl
            rcases hcase with ⟨k1, k2, rfl⟩ | ⟨k1, rfl⟩
            · refine z_if_eq (tgt := 51) hx hb dX1_pass_45 (by decide) (by omega) (fun hd => ?_) (fun hd => ?_)
              · exact absurd hd (by decide)
              · rw [if_pos ⟨k1, k2⟩] at hov
                refine z_iinc (lv' := [(2, .int (nI (zOv (zN x1) zz (min i cnt) + 1))), (6, .ref ((aa i).1)), (5, .int (nI i)), (4, .int (nI 6)), (3, .ref ar), (0, .ref ua), (1, .int x1)]) hx hb dX1_pass_48 hl (k := 2) rfl (by decide) rfl (fun ls hl => ?_)
                refine z_iinc (lv' := [(5, .int (nI (i + 1))), (2, .int (nI (zOv (zN x1) zz (min i cnt) + 1))), (6, .ref ((aa i).1)), (4, .int (nI 6)), (3, .ref ar), (0, .ref ua), (1, .int x1)]) hx hb dX1_pass_51 hl (k := 2) rfl (by decide) rfl (fun ls hl => ?_)
                refine lv_goto (tgt := 21) hx hb dX1_pass_54 (by decide) ?_
                rw [show zOv (zN x1) zz (min i cnt) + 1 = zOv (zN x1) zz (min (i + 1) cnt) by rw [hm1, hm2, hov]] at hl
                exact ih (i + 1) (va_up zz2 i (zPs (rr i) (ff i) (zN x1) (zz i))) (va_up qq2 i q') H _ _ (by omega) (by omega) nz1 nz2 nC hP hD hS (lv_sub hl [0, 1, 3, 4, 5, 6] rfl)
            · refine z_if_eq (tgt := 51) hx hb dX1_pass_45 (by decide) (by omega) (fun hd => ?_) (fun hd => ?_)
              · rw [if_neg k1] at hov
                refine z_iinc (lv' := [(5, .int (nI (i + 1))), (6, .ref ((aa i).1)), (2, .int (nI (zOv (zN x1) zz (min i cnt)))), (4, .int (nI 6)), (3, .ref ar), (0, .ref ua), (1, .int x1)]) hx hb dX1_pass_51 hl (k := 1) rfl (by decide) rfl (fun ls hl => ?_)
                refine lv_goto (tgt := 21) hx hb dX1_pass_54 (by decide) ?_
                rw [show zOv (zN x1) zz (min i cnt) = zOv (zN x1) zz (min (i + 1) cnt) by rw [hm1, hm2, hov]; rfl] at hl
                exact ih (i + 1) (va_up zz2 i (zPs (rr i) (ff i) (zN x1) (zz i))) (va_up qq2 i q') H _ _ (by omega) (by omega) nz1 nz2 nC hP hD hS (lv_sub hl [0, 2, 3, 4, 5, 6] rfl)
              · exact absurd rfl hd
          · rw [hnone i hl1 hc]
            refine zqn ?_
            refine lv_astoreN (lv' := [(6, .null), (5, .int (nI i)), (2, .int (nI (zOv (zN x1) zz (min i cnt)))), (4, .int (nI 6)), (3, .ref ar), (0, .ref ua), (1, .int x1)]) hx hb dX1_pass_32 hl (by decide) rfl (fun ls hl => ?_)
            refine lv_aloadN hx hb dX1_pass_34 (lv_at hl 0 rfl) ?_
            refine lv_ifnullN (tgt := 51) hx hb dX1_pass_36 (by decide) ?_
            refine z_iinc (lv' := [(5, .int (nI (i + 1))), (6, .null), (2, .int (nI (zOv (zN x1) zz (min i cnt)))), (4, .int (nI 6)), (3, .ref ar), (0, .ref ua), (1, .int x1)]) hx hb dX1_pass_51 hl (k := 1) rfl (by decide) rfl (fun ls hl => ?_)
            refine lv_goto (tgt := 21) hx hb dX1_pass_54 (by decide) ?_
            have hm1 : min i cnt = min (i + 1) cnt := by omega
            rw [hm1] at hl
            exact ih (i + 1) zz2 qq2 H _ _ (by omega) (by omega) (by rw [← hm1]; exact hz1) (fun k hk => hz2 k (by omega)) hC2 hP hD hS (lv_sub hl [0, 2, 3, 4, 5, 6] rfl)
    exact loop 7 0 zz qq H _ _ (by omega) (by omega) (fun k hk => absurd hk (by omega)) (fun k hk => rfl) hC hP hD hS (lv_sub hl [0, 3, 1, 2, 4, 5] rfl)
