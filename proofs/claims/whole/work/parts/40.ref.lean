/-! the reference: its reads -/
abbrev zFs : Type := (Nat → Int32) × (Nat → Int32) × (Nat → Int32) × (Nat → Int32) × (Nat → Int32) × (Nat → Int32) × (Nat → Int32) × (Nat → Int32) × (Nat → Int32) × (Nat → Int32) × (Nat → Int32)
/-- the reference's rows hold the lease k -/
def zMR (k rt lf : Nat) : zS → zFs → Prop := fun (T, P, p, R, I, Pd, W, G) (fY, fM, fA, fR, fL, fD, fH, fI, fW, fP, fG) => fM k = nI T ∧ fA k = nI P ∧ fR k = nI rt ∧ fL k = nI lf ∧ fD k = nI (zWr rt p T (T - P)) ∧ fH k = nI R ∧ fI k = I ∧ fW k = W ∧ fP k = Pd ∧ fG k = G ∧ ∀ j, P ≤ j → j < T → fY (120 * k + j) = nI (p j)
/-- .. say the same of the lease k -/
def zSame (k : Nat) : zFs → zFs → Prop := fun (fY, fM, fA, fR, fL, fD, fH, fI, fW, fP, fG) (gY, gM, gA, gR, gL, gD, gH, gI, gW, gP, gG) => gM k = fM k ∧ gA k = fA k ∧ gR k = fR k ∧ gL k = fL k ∧ gD k = fD k ∧ gH k = fH k ∧ gI k = fI k ∧ gW k = fW k ∧ gP k = fP k ∧ gG k = fG k ∧ ∀ j, j < 120 → gY (120 * k + j) = fY (120 * k + j)
theorem zMR_same {k rt lf : Nat} {z : zS} {F F' : zFs} (h : zMR k rt lf z F) (hs : zSame k F F') (hT : z.1 ≤ 120) : zMR k rt lf z F' := by
  obtain ⟨T, P, p, R, I, Pd, W, G⟩ := z
  obtain ⟨fY, fM, fA, fR, fL, fD, fH, fI, fW, fP, fG⟩ := F
  obtain ⟨gY, gM, gA, gR, gL, gD, gH, gI, gW, gP, gG⟩ := F'
  obtain ⟨h1, h2, h3, h4, h5, h6, h7, h8, h9, h10, h11⟩ := h
  obtain ⟨s1, s2, s3, s4, s5, s6, s7, s8, s9, s10, s11⟩ := hs
  exact ⟨s1.trans h1, s2.trans h2, s3.trans h3, s4.trans h4, s5.trans h5, s6.trans h6, s7.trans h7, s8.trans h8, s9.trans h9, s10.trans h10, fun j a b => (s11 j (Nat.lt_of_lt_of_le b hT)).trans (h11 j a b)⟩
theorem zSame_rf (k : Nat) (F : zFs) : zSame k F F := ⟨rfl, rfl, rfl, rfl, rfl, rfl, rfl, rfl, rfl, rfl, fun _ _ => rfl⟩
theorem zSame_tr {k : Nat} {F F' F2 : zFs} (h : zSame k F F') (h' : zSame k F' F2) : zSame k F F2 := by
  obtain ⟨h1, h2, h3, h4, h5, h6, h7, h8, h9, h10, h11⟩ := h
  obtain ⟨s1, s2, s3, s4, s5, s6, s7, s8, s9, s10, s11⟩ := h'
  exact ⟨s1.trans h1, s2.trans h2, s3.trans h3, s4.trans h4, s5.trans h5, s6.trans h6, s7.trans h7, s8.trans h8, s9.trans h9, s10.trans h10, fun j a => (s11 j a).trans (h11 j a)⟩
theorem z_noL {cnt : Nat} {x : Int32} (hc : cnt ≤ 6) : (nI 0 ≤ x ∧ x ≤ nI cnt - nI 1) ↔ ∃ j, j < cnt ∧ x = nI j := by
  have e1 : (nI cnt - nI 1).toInt = (cnt : Int) - 1 := pk_sub_toInt (by omega) (by omega)
  have e0 : (nI 0).toInt = 0 := nI_toInt (n := 0) (by omega)
  rw [Int32.le_iff_toInt_le, Int32.le_iff_toInt_le, e1, e0]
  constructor
  · rintro ⟨h1, h2⟩
    refine ⟨x.toInt.toNat, by omega, ?_⟩
    rw [← Int32.toInt_inj, nI_toInt (by omega)]; omega
  · rintro ⟨j, hj, rfl⟩
    rw [nI_toInt (by omega)]; omega
set_option maxHeartbeats 4000000 in
set_option maxRecDepth 100000 in
theorem m_thrown (l : Launch) (g : zG) (mo b0 b1 b2 b3 b4 b5 b6 b7 b8 b9 b10 cnt : Nat) (th : Int32) (fY fM fA fR fL fD fH fI fW fP fG : Nat → Int32)  : zMi l yX2_thrown wsX2_thrown ({ frames := 0, cells := 0, slots := 0, locals := 0 } : Room) [.ref mo] g [(mo, .inr (2, [.ref b0, .ref b1, .ref b2, .ref b3, .ref b4, .ref b5, .ref b6, .ref b7, .ref b8, .ref b9, .ref b10, .int (nI cnt), .int th])), (b0, .inl (g.2.1, 720, .inl fY)), (b1, .inl (g.2.1, 6, .inl fM)), (b2, .inl (g.2.1, 6, .inl fA)), (b3, .inl (g.2.1, 6, .inl fR)), (b4, .inl (g.2.1, 6, .inl fL)), (b5, .inl (g.2.1, 6, .inl fD)), (b6, .inl (g.2.1, 6, .inl fH)), (b7, .inl (g.2.1, 6, .inl fI)), (b8, .inl (g.2.1, 6, .inl fW)), (b9, .inl (g.2.1, 6, .inl fP)), (b10, .inl (g.2.1, 6, .inl fG))] (fun q w => q = th ∧ w = [(mo, .inr (2, [.ref b0, .ref b1, .ref b2, .ref b3, .ref b4, .ref b5, .ref b6, .ref b7, .ref b8, .ref b9, .ref b10, .int (nI cnt), .int th])), (b0, .inl (g.2.1, 720, .inl fY)), (b1, .inl (g.2.1, 6, .inl fM)), (b2, .inl (g.2.1, 6, .inl fA)), (b3, .inl (g.2.1, 6, .inl fR)), (b4, .inl (g.2.1, 6, .inl fL)), (b5, .inl (g.2.1, 6, .inl fD)), (b6, .inl (g.2.1, 6, .inl fH)), (b7, .inl (g.2.1, 6, .inl fI)), (b8, .inl (g.2.1, 6, .inl fW)), (b9, .inl (g.2.1, 6, .inl fP)), (b10, .inl (g.2.1, 6, .inl fG))]) 0 0 := by
  intro sz A hAe
  refine Met.ofW (cc := cX2_thrown) (maxL := 1) (ret := some .int) (by decide) rfl ?_
  intro p e s m args below meth c s₁ B hml hv
  obtain ⟨rfl, hsz, hP, hK, hD0⟩ := hv
  have hx := B.exec
  have hb := B.bytes
  have hr := B.returns
  have hts := atoms_spec (ws := wsX2_thrown) B.pre
  have hown : s.vm.findClass RX2 = some m.cls := findClass_of_methodNamed B.named
  have hlocks := B.notSynchronized
  obtain ⟨hD, hA, hS⟩ := z_in hsz hAe hD0
  have hl := lv_entry ([.ref mo]) (n := 1) (Nat.le_of_ble_eq_true rfl)
  rw [lg_entry_eq]
  generalize (lg_sl ([.ref mo]) ++ List.replicate (1 - (lg_sl ([.ref mo])).length) Slot.unset).toArray = ls at hl ⊢
  have hl : lv_has ls 1 [(0, .ref mo)] := hl
  have hinX2 : ∀ w ∈ wsX20, w ∈ wsX2_thrown := by decide +kernel
  refine lv_aload_n hx hb dX2_thrown_0 rfl (lv_at hl 0 rfl) ?_
  refine va_get (D := g.1) (ci := 2) (v := .int th) (C := RX2) (T := TX2) (N := 13) hx hb hts hinX2 hown hK hP 0 rfl rfl 12 (by decide) (hts (.fieldLink RX2 43 "UsewiseModel" "thrown" "I") (by decide +kernel)) (fun _ h9 => h9) rfl dX2_thrown_1 ?_
  exact z_iret hx hb hr hP hK hD hS dX2_thrown_4 hlocks (⟨rfl, rfl⟩)

set_option maxHeartbeats 4000000 in
set_option maxRecDepth 100000 in
theorem m_fails (l : Launch) (g : zG) (mo b0 b1 b2 b3 b4 b5 b6 b7 b8 b9 b10 cnt : Nat) (th : Int32) (fY fM fA fR fL fD fH fI fW fP fG : Nat → Int32) (x0 : Int32)  : zMi l yX2_fails wsX2_fails ({ frames := 0, cells := 0, slots := 0, locals := 0 } : Room) [.ref mo, .int x0] g [(mo, .inr (2, [.ref b0, .ref b1, .ref b2, .ref b3, .ref b4, .ref b5, .ref b6, .ref b7, .ref b8, .ref b9, .ref b10, .int (nI cnt), .int th])), (b0, .inl (g.2.1, 720, .inl fY)), (b1, .inl (g.2.1, 6, .inl fM)), (b2, .inl (g.2.1, 6, .inl fA)), (b3, .inl (g.2.1, 6, .inl fR)), (b4, .inl (g.2.1, 6, .inl fL)), (b5, .inl (g.2.1, 6, .inl fD)), (b6, .inl (g.2.1, 6, .inl fH)), (b7, .inl (g.2.1, 6, .inl fI)), (b8, .inl (g.2.1, 6, .inl fW)), (b9, .inl (g.2.1, 6, .inl fP)), (b10, .inl (g.2.1, 6, .inl fG))] (fun q w => q = nI 0 ∧ w = [(mo, .inr (2, [.ref b0, .ref b1, .ref b2, .ref b3, .ref b4, .ref b5, .ref b6, .ref b7, .ref b8, .ref b9, .ref b10, .int (nI cnt), .int x0])), (b0, .inl (g.2.1, 720, .inl fY)), (b1, .inl (g.2.1, 6, .inl fM)), (b2, .inl (g.2.1, 6, .inl fA)), (b3, .inl (g.2.1, 6, .inl fR)), (b4, .inl (g.2.1, 6, .inl fL)), (b5, .inl (g.2.1, 6, .inl fD)), (b6, .inl (g.2.1, 6, .inl fH)), (b7, .inl (g.2.1, 6, .inl fI)), (b8, .inl (g.2.1, 6, .inl fW)), (b9, .inl (g.2.1, 6, .inl fP)), (b10, .inl (g.2.1, 6, .inl fG))]) 0 0 := by
  intro sz A hAe
  refine Met.ofW (cc := cX2_fails) (maxL := 2) (ret := some .int) (by decide) rfl ?_
  intro p e s m args below meth c s₁ B hml hv
  obtain ⟨rfl, hsz, hP, hK, hD0⟩ := hv
  have hx := B.exec
  have hb := B.bytes
  have hr := B.returns
  have hts := atoms_spec (ws := wsX2_fails) B.pre
  have hown : s.vm.findClass RX2 = some m.cls := findClass_of_methodNamed B.named
  have hlocks := B.notSynchronized
  obtain ⟨hD, hA, hS⟩ := z_in hsz hAe hD0
  have hl := lv_entry ([.ref mo, .int x0]) (n := 2) (Nat.le_of_ble_eq_true rfl)
  rw [lg_entry_eq]
  generalize (lg_sl ([.ref mo, .int x0]) ++ List.replicate (2 - (lg_sl ([.ref mo, .int x0])).length) Slot.unset).toArray = ls at hl ⊢
  have hl : lv_has ls 2 [(0, .ref mo), (1, .int x0)] := hl
  have hinX2 : ∀ w ∈ wsX20, w ∈ wsX2_fails := by decide +kernel
  refine lv_aload_n hx hb dX2_fails_0 rfl (lv_at hl 0 rfl) ?_
  refine lv_iload_n hx hb dX2_fails_1 rfl (lv_at hl 1 rfl) ?_
  refine va_put (D := g.1) (ci := 2) (v := .int x0) (ty := .int) (C := RX2) (T := TX2) (N := 13) hx hb hts hinX2 tyX2 tyX2_ok nmX2 hown hK hP hD hS 0 rfl rfl 12 (by decide) (hts (.fieldLink RX2 43 "UsewiseModel" "thrown" "I") (by decide +kernel)) (fun _ h9 => h9) rfl (by decide +kernel) rfl rfl (Nat.le_of_ble_eq_true rfl) dX2_fails_2 (fun H locs hP hD hS => ?_)
  have hP : va_P g.1 vwCl [(mo, .inr (2, [.ref b0, .ref b1, .ref b2, .ref b3, .ref b4, .ref b5, .ref b6, .ref b7, .ref b8, .ref b9, .ref b10, .int (nI cnt), .int x0])), (b0, .inl (g.2.1, 720, .inl fY)), (b1, .inl (g.2.1, 6, .inl fM)), (b2, .inl (g.2.1, 6, .inl fA)), (b3, .inl (g.2.1, 6, .inl fR)), (b4, .inl (g.2.1, 6, .inl fL)), (b5, .inl (g.2.1, 6, .inl fD)), (b6, .inl (g.2.1, 6, .inl fH)), (b7, .inl (g.2.1, 6, .inl fI)), (b8, .inl (g.2.1, 6, .inl fW)), (b9, .inl (g.2.1, 6, .inl fP)), (b10, .inl (g.2.1, 6, .inl fG))] H := hP
  have hD : va_D A [(mo, .inr (2, [.ref b0, .ref b1, .ref b2, .ref b3, .ref b4, .ref b5, .ref b6, .ref b7, .ref b8, .ref b9, .ref b10, .int (nI cnt), .int x0])), (b0, .inl (g.2.1, 720, .inl fY)), (b1, .inl (g.2.1, 6, .inl fM)), (b2, .inl (g.2.1, 6, .inl fA)), (b3, .inl (g.2.1, 6, .inl fR)), (b4, .inl (g.2.1, 6, .inl fL)), (b5, .inl (g.2.1, 6, .inl fD)), (b6, .inl (g.2.1, 6, .inl fH)), (b7, .inl (g.2.1, 6, .inl fI)), (b8, .inl (g.2.1, 6, .inl fW)), (b9, .inl (g.2.1, 6, .inl fP)), (b10, .inl (g.2.1, 6, .inl fG))] := hD
  refine lv_iconst (v := nI 0) hx hb dX2_fails_5 (by decide) ?_
  exact z_iret hx hb hr hP hK hD hS dX2_fails_6 hlocks (⟨rfl, rfl⟩)

set_option maxHeartbeats 4000000 in
set_option maxRecDepth 100000 in
theorem m_in (l : Launch) (g : zG) (x0 a0 b0 : Int32)  : zMi l yX2_in wsX2_in ({ frames := 0, cells := 0, slots := 0, locals := 0 } : Room) [.int x0, .int a0, .int b0] g [] (fun q w => (((a0 ≤ x0 ∧ x0 ≤ b0) ∧ q = nI 1) ∨ (¬ (a0 ≤ x0 ∧ x0 ≤ b0) ∧ q = nI 0)) ∧ w = []) 0 0 := by
  intro sz A hAe
  refine Met.ofW (cc := cX2_in) (maxL := 3) (ret := some .boolean) (by decide) rfl ?_
  intro p e s m args below meth c s₁ B hml hv
  obtain ⟨rfl, hsz, hP, hK, hD0⟩ := hv
  have hx := B.exec
  have hb := B.bytes
  have hr := B.returns
  have hts := atoms_spec (ws := wsX2_in) B.pre
  have hown : s.vm.findClass RX2 = some m.cls := findClass_of_methodNamed B.named
  have hlocks := B.notSynchronized
  obtain ⟨hD, hA, hS⟩ := z_in hsz hAe hD0
  have hl := lv_entry ([.int x0, .int a0, .int b0]) (n := 3) (Nat.le_of_ble_eq_true rfl)
  rw [lg_entry_eq]
  generalize (lg_sl ([.int x0, .int a0, .int b0]) ++ List.replicate (3 - (lg_sl ([.int x0, .int a0, .int b0])).length) Slot.unset).toArray = ls at hl ⊢
  have hl : lv_has ls 3 [(0, .int x0), (1, .int a0), (2, .int b0)] := hl
  refine lv_iload_n hx hb dX2_in_0 rfl (lv_at hl 0 rfl) ?_
  refine lv_iload_n hx hb dX2_in_1 rfl (lv_at hl 1 rfl) ?_
  refine lv_icmp_lt (tgt := 14) hx hb dX2_in_2 (by decide) (fun hc => ?_) (fun hc => ?_)
  · refine lv_iconst (v := nI 0) hx hb dX2_in_14 (by decide) ?_
    exact z_zret hx hb hr (by decide) hP hK hD hS dX2_in_15 hlocks (⟨Or.inr ⟨fun z => z_nle_of_lt hc z.1, rfl⟩, rfl⟩)
  · refine lv_iload_n hx hb dX2_in_5 rfl (lv_at hl 0 rfl) ?_
    refine lv_iload_n hx hb dX2_in_6 rfl (lv_at hl 2 rfl) ?_
    refine lv_icmp_gt (tgt := 14) hx hb dX2_in_7 (by decide) (fun hd => ?_) (fun hd => ?_)
    · refine lv_iconst (v := nI 0) hx hb dX2_in_14 (by decide) ?_
      exact z_zret hx hb hr (by decide) hP hK hD hS dX2_in_15 hlocks (⟨Or.inr ⟨fun z => z_nle_of_lt hd z.2, rfl⟩, rfl⟩)
    · refine lv_iconst (v := nI 1) hx hb dX2_in_10 (by decide) ?_
      refine lv_goto (tgt := 15) hx hb dX2_in_11 (by decide) ?_
      exact z_zret hx hb hr (by decide) hP hK hD hS dX2_in_15 hlocks (⟨Or.inl ⟨⟨z_le_of_nlt hc, z_le_of_nlt hd⟩, rfl⟩, rfl⟩)

set_option maxHeartbeats 4000000 in
set_option maxRecDepth 100000 in
theorem m_isNoLease (l : Launch) (g : zG) (mo b0 b1 b2 b3 b4 b5 b6 b7 b8 b9 b10 cnt : Nat) (th : Int32) (fY fM fA fR fL fD fH fI fW fP fG : Nat → Int32) (x0 : Int32) (hcnt : cnt ≤ 6) : zMi l yX2_isNoLease wsX2_isNoLease ({ frames := 1, cells := 0, slots := 0, locals := 22 } : Room) [.ref mo, .int x0] g [(mo, .inr (2, [.ref b0, .ref b1, .ref b2, .ref b3, .ref b4, .ref b5, .ref b6, .ref b7, .ref b8, .ref b9, .ref b10, .int (nI cnt), .int th])), (b0, .inl (g.2.1, 720, .inl fY)), (b1, .inl (g.2.1, 6, .inl fM)), (b2, .inl (g.2.1, 6, .inl fA)), (b3, .inl (g.2.1, 6, .inl fR)), (b4, .inl (g.2.1, 6, .inl fL)), (b5, .inl (g.2.1, 6, .inl fD)), (b6, .inl (g.2.1, 6, .inl fH)), (b7, .inl (g.2.1, 6, .inl fI)), (b8, .inl (g.2.1, 6, .inl fW)), (b9, .inl (g.2.1, 6, .inl fP)), (b10, .inl (g.2.1, 6, .inl fG))] (fun q w => (((∀ j, j < cnt → x0 ≠ nI j) ∧ q = nI 1) ∨ ((∃ j, j < cnt ∧ x0 = nI j) ∧ q = nI 0)) ∧ w = [(mo, .inr (2, [.ref b0, .ref b1, .ref b2, .ref b3, .ref b4, .ref b5, .ref b6, .ref b7, .ref b8, .ref b9, .ref b10, .int (nI cnt), .int th])), (b0, .inl (g.2.1, 720, .inl fY)), (b1, .inl (g.2.1, 6, .inl fM)), (b2, .inl (g.2.1, 6, .inl fA)), (b3, .inl (g.2.1, 6, .inl fR)), (b4, .inl (g.2.1, 6, .inl fL)), (b5, .inl (g.2.1, 6, .inl fD)), (b6, .inl (g.2.1, 6, .inl fH)), (b7, .inl (g.2.1, 6, .inl fI)), (b8, .inl (g.2.1, 6, .inl fW)), (b9, .inl (g.2.1, 6, .inl fP)), (b10, .inl (g.2.1, 6, .inl fG))]) 0 0 := by
  intro sz A hAe
  refine Met.ofW (cc := cX2_isNoLease) (maxL := 2) (ret := some .boolean) (by decide) rfl ?_
  intro p e s m args below meth c s₁ B hml hv
  obtain ⟨rfl, hsz, hP, hK, hD0⟩ := hv
  have hx := B.exec
  have hb := B.bytes
  have hr := B.returns
  have hts := atoms_spec (ws := wsX2_isNoLease) B.pre
  have hown : s.vm.findClass RX2 = some m.cls := findClass_of_methodNamed B.named
  have hlocks := B.notSynchronized
  obtain ⟨hD, hA, hS⟩ := z_in hsz hAe hD0
  have hl := lv_entry ([.ref mo, .int x0]) (n := 2) (Nat.le_of_ble_eq_true rfl)
  rw [lg_entry_eq]
  generalize (lg_sl ([.ref mo, .int x0]) ++ List.replicate (2 - (lg_sl ([.ref mo, .int x0])).length) Slot.unset).toArray = ls at hl ⊢
  have hl : lv_has ls 2 [(0, .ref mo), (1, .int x0)] := hl
  have hinX2 : ∀ w ∈ wsX20, w ∈ wsX2_isNoLease := by decide +kernel
  refine lv_iload_n hx hb dX2_isNoLease_0 rfl (lv_at hl 1 rfl) ?_
  refine lv_iconst (v := nI 0) hx hb dX2_isNoLease_1 (by decide) ?_
  refine lv_aload_n hx hb dX2_isNoLease_2 rfl (lv_at hl 0 rfl) ?_
  refine va_get (D := g.1) (ci := 2) (v := .int (nI cnt)) (C := RX2) (T := TX2) (N := 13) hx hb hts hinX2 hown hK hP 0 rfl rfl 11 (by decide) (hts (.fieldLink RX2 47 "UsewiseModel" "leases" "I") (by decide +kernel)) (fun _ h9 => h9) rfl dX2_isNoLease_3 ?_
  refine lv_iconst (v := nI 1) hx hb dX2_isNoLease_6 (by decide) ?_
  refine lv_isub hx hb dX2_isNoLease_7 ?_
  refine z_ai (wa := [(mo, .inr (2, [.ref b0, .ref b1, .ref b2, .ref b3, .ref b4, .ref b5, .ref b6, .ref b7, .ref b8, .ref b9, .ref b10, .int (nI cnt), .int th])), (b0, .inl (g.2.1, 720, .inl fY)), (b1, .inl (g.2.1, 6, .inl fM)), (b2, .inl (g.2.1, 6, .inl fA)), (b3, .inl (g.2.1, 6, .inl fR)), (b4, .inl (g.2.1, 6, .inl fL)), (b5, .inl (g.2.1, 6, .inl fD)), (b6, .inl (g.2.1, 6, .inl fH)), (b7, .inl (g.2.1, 6, .inl fI)), (b8, .inl (g.2.1, 6, .inl fW)), (b9, .inl (g.2.1, 6, .inl fP)), (b10, .inl (g.2.1, 6, .inl fG))]) (wc := []) (wb := []) (va_runS (As := [.int x0, .int (nI 0), .int ((nI cnt) - (nI 1))]) (rest := []) ⟨hx, hb, hml, hown, hts⟩ (m_in l g x0 (nI 0) (nI cnt - nI 1) s.heap.size _ rfl) (va_cwS 3 hts gX2_isNoLease_X2_in rfl rfl rfl (by decide +kernel) ⟨Nat.le_of_ble_eq_true rfl, Nat.le_of_ble_eq_true rfl⟩) (zpreS (wa := [(mo, .inr (2, [.ref b0, .ref b1, .ref b2, .ref b3, .ref b4, .ref b5, .ref b6, .ref b7, .ref b8, .ref b9, .ref b10, .int (nI cnt), .int th])), (b0, .inl (g.2.1, 720, .inl fY)), (b1, .inl (g.2.1, 6, .inl fM)), (b2, .inl (g.2.1, 6, .inl fA)), (b3, .inl (g.2.1, 6, .inl fR)), (b4, .inl (g.2.1, 6, .inl fL)), (b5, .inl (g.2.1, 6, .inl fD)), (b6, .inl (g.2.1, 6, .inl fH)), (b7, .inl (g.2.1, 6, .inl fI)), (b8, .inl (g.2.1, 6, .inl fW)), (b9, .inl (g.2.1, 6, .inl fP)), (b10, .inl (g.2.1, 6, .inl fG))]) (wc := []) (wb := []) hK hP hD) rfl rfl hl.1 rfl (lv_room (Nat.le_of_ble_eq_true rfl)) dX2_isNoLease_8 ⟨Nat.le_of_ble_eq_true rfl, Nat.le_of_ble_eq_true rfl⟩) hP hD hS hA (fun rb w1 H locs hq hP hD hS => ?_)
  obtain ⟨hcase, rfl⟩ := hq
  have hP : va_P g.1 vwCl [(mo, .inr (2, [.ref b0, .ref b1, .ref b2, .ref b3, .ref b4, .ref b5, .ref b6, .ref b7, .ref b8, .ref b9, .ref b10, .int (nI cnt), .int th])), (b0, .inl (g.2.1, 720, .inl fY)), (b1, .inl (g.2.1, 6, .inl fM)), (b2, .inl (g.2.1, 6, .inl fA)), (b3, .inl (g.2.1, 6, .inl fR)), (b4, .inl (g.2.1, 6, .inl fL)), (b5, .inl (g.2.1, 6, .inl fD)), (b6, .inl (g.2.1, 6, .inl fH)), (b7, .inl (g.2.1, 6, .inl fI)), (b8, .inl (g.2.1, 6, .inl fW)), (b9, .inl (g.2.1, 6, .inl fP)), (b10, .inl (g.2.1, 6, .inl fG))] H := hP
  have hD : va_D A [(mo, .inr (2, [.ref b0, .ref b1, .ref b2, .ref b3, .ref b4, .ref b5, .ref b6, .ref b7, .ref b8, .ref b9, .ref b10, .int (nI cnt), .int th])), (b0, .inl (g.2.1, 720, .inl fY)), (b1, .inl (g.2.1, 6, .inl fM)), (b2, .inl (g.2.1, 6, .inl fA)), (b3, .inl (g.2.1, 6, .inl fR)), (b4, .inl (g.2.1, 6, .inl fL)), (b5, .inl (g.2.1, 6, .inl fD)), (b6, .inl (g.2.1, 6, .inl fH)), (b7, .inl (g.2.1, 6, .inl fI)), (b8, .inl (g.2.1, 6, .inl fW)), (b9, .inl (g.2.1, 6, .inl fP)), (b10, .inl (g.2.1, 6, .inl fG))] := hD
  rcases hcase with ⟨ht, rfl⟩ | ⟨hf, rfl⟩
  · refine z_if_ne (tgt := 18) hx hb dX2_isNoLease_11 (by decide) (by decide) (fun _ => ?_) (fun h => absurd h (by decide))
    refine lv_iconst (v := nI 0) hx hb dX2_isNoLease_18 (by decide) ?_
    exact z_zret hx hb hr (by decide) hP hK hD hS dX2_isNoLease_19 hlocks (⟨Or.inr ⟨(z_noL hcnt).mp ht, rfl⟩, rfl⟩)
  · refine z_if_ne (tgt := 18) hx hb dX2_isNoLease_11 (by decide) (by decide) (fun h => absurd rfl h) (fun _ => ?_)
    refine lv_iconst (v := nI 1) hx hb dX2_isNoLease_14 (by decide) ?_
    refine lv_goto (tgt := 19) hx hb dX2_isNoLease_15 (by decide) ?_
    exact z_zret hx hb hr (by decide) hP hK hD hS dX2_isNoLease_19 hlocks (⟨Or.inl ⟨fun j hj z => hf ((z_noL hcnt).mpr ⟨j, hj, z⟩), rfl⟩, rfl⟩)

set_option maxHeartbeats 4000000 in
set_option maxRecDepth 100000 in
theorem m_left (l : Launch) (g : zG) (mo b0 b1 b2 b3 b4 b5 b6 b7 b8 b9 b10 cnt : Nat) (th : Int32) (fY fM fA fR fL fD fH fI fW fP fG : Nat → Int32) (k T P : Nat) (hk : k < 6) (hmM : fM k = nI T) (hmA : fA k = nI P) (hPT : P ≤ T) : zMi l yX2_left wsX2_left ({ frames := 0, cells := 0, slots := 0, locals := 0 } : Room) [.ref mo, .int (nI k)] g [(mo, .inr (2, [.ref b0, .ref b1, .ref b2, .ref b3, .ref b4, .ref b5, .ref b6, .ref b7, .ref b8, .ref b9, .ref b10, .int (nI cnt), .int th])), (b0, .inl (g.2.1, 720, .inl fY)), (b1, .inl (g.2.1, 6, .inl fM)), (b2, .inl (g.2.1, 6, .inl fA)), (b3, .inl (g.2.1, 6, .inl fR)), (b4, .inl (g.2.1, 6, .inl fL)), (b5, .inl (g.2.1, 6, .inl fD)), (b6, .inl (g.2.1, 6, .inl fH)), (b7, .inl (g.2.1, 6, .inl fI)), (b8, .inl (g.2.1, 6, .inl fW)), (b9, .inl (g.2.1, 6, .inl fP)), (b10, .inl (g.2.1, 6, .inl fG))] (fun q w => q = nI (T - P) ∧ w = [(mo, .inr (2, [.ref b0, .ref b1, .ref b2, .ref b3, .ref b4, .ref b5, .ref b6, .ref b7, .ref b8, .ref b9, .ref b10, .int (nI cnt), .int th])), (b0, .inl (g.2.1, 720, .inl fY)), (b1, .inl (g.2.1, 6, .inl fM)), (b2, .inl (g.2.1, 6, .inl fA)), (b3, .inl (g.2.1, 6, .inl fR)), (b4, .inl (g.2.1, 6, .inl fL)), (b5, .inl (g.2.1, 6, .inl fD)), (b6, .inl (g.2.1, 6, .inl fH)), (b7, .inl (g.2.1, 6, .inl fI)), (b8, .inl (g.2.1, 6, .inl fW)), (b9, .inl (g.2.1, 6, .inl fP)), (b10, .inl (g.2.1, 6, .inl fG))]) 0 0 := by
  intro sz A hAe
  refine Met.ofW (cc := cX2_left) (maxL := 2) (ret := some .int) (by decide) rfl ?_
  intro p e s m args below meth c s₁ B hml hv
  obtain ⟨rfl, hsz, hP, hK, hD0⟩ := hv
  have hx := B.exec
  have hb := B.bytes
  have hr := B.returns
  have hts := atoms_spec (ws := wsX2_left) B.pre
  have hown : s.vm.findClass RX2 = some m.cls := findClass_of_methodNamed B.named
  have hlocks := B.notSynchronized
  obtain ⟨hD, hA, hS⟩ := z_in hsz hAe hD0
  have hl := lv_entry ([.ref mo, .int (nI k)]) (n := 2) (Nat.le_of_ble_eq_true rfl)
  rw [lg_entry_eq]
  generalize (lg_sl ([.ref mo, .int (nI k)]) ++ List.replicate (2 - (lg_sl ([.ref mo, .int (nI k)])).length) Slot.unset).toArray = ls at hl ⊢
  have hl : lv_has ls 2 [(0, .ref mo), (1, .int (nI k))] := hl
  have hinX2 : ∀ w ∈ wsX20, w ∈ wsX2_left := by decide +kernel
  refine lv_aload_n hx hb dX2_left_0 rfl (lv_at hl 0 rfl) ?_
  refine va_get (D := g.1) (ci := 2) (v := .ref b1) (C := RX2) (T := TX2) (N := 13) hx hb hts hinX2 hown hK hP 0 rfl rfl 1 (by decide) (hts (.fieldLink RX2 13 "UsewiseModel" "months" "[I") (by decide +kernel)) (fun _ h9 => h9) rfl dX2_left_1 ?_
  refine lv_iload_n hx hb dX2_left_4 rfl (lv_at hl 1 rfl) ?_
  refine z_iald hx hb hK hP 2 0 rfl rfl (by omega) (by decide) dX2_left_5 ?_
  refine zi (y := nI T) (hmM) ?_
  refine lv_aload_n hx hb dX2_left_6 rfl (lv_at hl 0 rfl) ?_
  refine va_get (D := g.1) (ci := 2) (v := .ref b2) (C := RX2) (T := TX2) (N := 13) hx hb hts hinX2 hown hK hP 0 rfl rfl 2 (by decide) (hts (.fieldLink RX2 16 "UsewiseModel" "past" "[I") (by decide +kernel)) (fun _ h9 => h9) rfl dX2_left_7 ?_
  refine lv_iload_n hx hb dX2_left_10 rfl (lv_at hl 1 rfl) ?_
  refine z_iald hx hb hK hP 3 0 rfl rfl (by omega) (by decide) dX2_left_11 ?_
  refine zi (y := nI P) (hmA) ?_
  refine z_isub hx hb dX2_left_12 (by omega) ?_
  exact z_iret hx hb hr hP hK hD hS dX2_left_13 hlocks (⟨rfl, rfl⟩)

set_option maxHeartbeats 4000000 in
set_option maxRecDepth 100000 in
theorem m_worth (l : Launch) (g : zG) (mo b0 b1 b2 b3 b4 b5 b6 b7 b8 b9 b10 cnt : Nat) (th : Int32) (fY fM fA fR fL fD fH fI fW fP fG : Nat → Int32) (k fr ra T : Nat) (py : Nat → Nat) (hk : k < 6) (hmM : fM k = nI T) (hT : T ≤ 120) (hfr : fr ≤ T) (hra : ra ≤ 20001) (hp : ∀ j, fr ≤ j → j < T → py j ≤ 1000000) (hmY : ∀ j, fr ≤ j → j < T → fY (120 * k + j) = nI (py j)) : zMi l yX2_worth wsX2_worth ({ frames := 0, cells := 0, slots := 0, locals := 0 } : Room) [.ref mo, .int (nI k), .int (nI fr), .int (nI ra)] g [(mo, .inr (2, [.ref b0, .ref b1, .ref b2, .ref b3, .ref b4, .ref b5, .ref b6, .ref b7, .ref b8, .ref b9, .ref b10, .int (nI cnt), .int th])), (b0, .inl (g.2.1, 720, .inl fY)), (b1, .inl (g.2.1, 6, .inl fM)), (b2, .inl (g.2.1, 6, .inl fA)), (b3, .inl (g.2.1, 6, .inl fR)), (b4, .inl (g.2.1, 6, .inl fL)), (b5, .inl (g.2.1, 6, .inl fD)), (b6, .inl (g.2.1, 6, .inl fH)), (b7, .inl (g.2.1, 6, .inl fI)), (b8, .inl (g.2.1, 6, .inl fW)), (b9, .inl (g.2.1, 6, .inl fP)), (b10, .inl (g.2.1, 6, .inl fG))] (fun q w => q = nI (zWr ra py T (T - fr)) ∧ w = [(mo, .inr (2, [.ref b0, .ref b1, .ref b2, .ref b3, .ref b4, .ref b5, .ref b6, .ref b7, .ref b8, .ref b9, .ref b10, .int (nI cnt), .int th])), (b0, .inl (g.2.1, 720, .inl fY)), (b1, .inl (g.2.1, 6, .inl fM)), (b2, .inl (g.2.1, 6, .inl fA)), (b3, .inl (g.2.1, 6, .inl fR)), (b4, .inl (g.2.1, 6, .inl fL)), (b5, .inl (g.2.1, 6, .inl fD)), (b6, .inl (g.2.1, 6, .inl fH)), (b7, .inl (g.2.1, 6, .inl fI)), (b8, .inl (g.2.1, 6, .inl fW)), (b9, .inl (g.2.1, 6, .inl fP)), (b10, .inl (g.2.1, 6, .inl fG))]) 0 0 := by
  intro sz A hAe
  refine Met.ofW (cc := cX2_worth) (maxL := 9) (ret := some .int) (by decide) rfl ?_
  intro p e s m args below meth c s₁ B hml hv
  obtain ⟨rfl, hsz, hP, hK, hD0⟩ := hv
  have hx := B.exec
  have hb := B.bytes
  have hr := B.returns
  have hts := atoms_spec (ws := wsX2_worth) B.pre
  have hown : s.vm.findClass RX2 = some m.cls := findClass_of_methodNamed B.named
  have hlocks := B.notSynchronized
  obtain ⟨hD, hA, hS⟩ := z_in hsz hAe hD0
  have hl := lv_entry ([.ref mo, .int (nI k), .int (nI fr), .int (nI ra)]) (n := 9) (Nat.le_of_ble_eq_true rfl)
  rw [lg_entry_eq]
  generalize (lg_sl ([.ref mo, .int (nI k), .int (nI fr), .int (nI ra)]) ++ List.replicate (9 - (lg_sl ([.ref mo, .int (nI k), .int (nI fr), .int (nI ra)])).length) Slot.unset).toArray = ls at hl ⊢
  have hl : lv_has ls 9 [(0, .ref mo), (1, .int (nI k)), (2, .int (nI fr)), (3, .int (nI ra))] := hl
  have hinX2 : ∀ w ∈ wsX20, w ∈ wsX2_worth := by decide +kernel
  refine lv_lconst (v := lN 0) hx hb dX2_worth_0 rfl ?_
  refine zl (y := lN (zWr ra py T (T - T))) (by rw [Nat.sub_self]; rfl) ?_
  refine lv_lstore (lv' := [(4, .long (lN (zWr ra py T (T - T)))), (0, .ref mo), (1, .int (nI k)), (2, .int (nI fr)), (3, .int (nI ra))]) hx hb dX2_worth_1 hl (by decide) rfl (fun ls hl => ?_)
  refine lv_ldc2 (v := lN 1000000) hx hb hown (hts (.constantLong RX2 54 (1000000)) (by decide +kernel)) dX2_worth_3 ?_
  refine lv_iload_n hx hb dX2_worth_6 rfl (lv_at hl 4 rfl) ?_
  refine z_i2l hx hb dX2_worth_7 (by omega) ?_
  refine z_ladd hx hb dX2_worth_8 ?_
  refine lv_lstore (lv' := [(6, .long (lN (1000000 + ra))), (4, .long (lN (zWr ra py T (T - T)))), (0, .ref mo), (1, .int (nI k)), (2, .int (nI fr)), (3, .int (nI ra))]) hx hb dX2_worth_9 hl (by decide) rfl (fun ls hl => ?_)
  refine lv_aload_n hx hb dX2_worth_11 rfl (lv_at hl 2 rfl) ?_
  refine va_get (D := g.1) (ci := 2) (v := .ref b1) (C := RX2) (T := TX2) (N := 13) hx hb hts hinX2 hown hK hP 0 rfl rfl 1 (by decide) (hts (.fieldLink RX2 13 "UsewiseModel" "months" "[I") (by decide +kernel)) (fun _ h9 => h9) rfl dX2_worth_12 ?_
  refine lv_iload_n hx hb dX2_worth_15 rfl (lv_at hl 3 rfl) ?_
  refine z_iald hx hb hK hP 2 0 rfl rfl (by omega) (by decide) dX2_worth_16 ?_
  refine zi (y := nI T) (hmM) ?_
  refine lv_iconst (v := nI 1) hx hb dX2_worth_17 (by decide) ?_
  refine lv_isub hx hb dX2_worth_18 ?_
  refine zi (y := nI T + (-1)) (z_m1 T) ?_
  refine lv_istore (lv' := [(8, .int (nI T + (-1))), (6, .long (lN (1000000 + ra))), (4, .long (lN (zWr ra py T (T - T)))), (0, .ref mo), (1, .int (nI k)), (2, .int (nI fr)), (3, .int (nI ra))]) hx hb dX2_worth_19 hl (by decide) rfl (fun ls hl => ?_)
  have loop : ∀ (n : Nat) (j0 : Nat) (H : Heap) (locs : List Loc) (ls : Array Slot), j0 < n → fr ≤ j0 → j0 ≤ T → va_P g.1 vwCl [(mo, .inr (2, [.ref b0, .ref b1, .ref b2, .ref b3, .ref b4, .ref b5, .ref b6, .ref b7, .ref b8, .ref b9, .ref b10, .int (nI cnt), .int th])), (b0, .inl (g.2.1, 720, .inl fY)), (b1, .inl (g.2.1, 6, .inl fM)), (b2, .inl (g.2.1, 6, .inl fA)), (b3, .inl (g.2.1, 6, .inl fR)), (b4, .inl (g.2.1, 6, .inl fL)), (b5, .inl (g.2.1, 6, .inl fD)), (b6, .inl (g.2.1, 6, .inl fH)), (b7, .inl (g.2.1, 6, .inl fI)), (b8, .inl (g.2.1, 6, .inl fW)), (b9, .inl (g.2.1, 6, .inl fP)), (b10, .inl (g.2.1, 6, .inl fG))] H → va_D A [(mo, .inr (2, [.ref b0, .ref b1, .ref b2, .ref b3, .ref b4, .ref b5, .ref b6, .ref b7, .ref b8, .ref b9, .ref b10, .int (nI cnt), .int th])), (b0, .inl (g.2.1, 720, .inl fY)), (b1, .inl (g.2.1, 6, .inl fM)), (b2, .inl (g.2.1, 6, .inl fA)), (b3, .inl (g.2.1, 6, .inl fR)), (b4, .inl (g.2.1, 6, .inl fL)), (b5, .inl (g.2.1, 6, .inl fD)), (b6, .inl (g.2.1, 6, .inl fH)), (b7, .inl (g.2.1, 6, .inl fI)), (b8, .inl (g.2.1, 6, .inl fW)), (b9, .inl (g.2.1, 6, .inl fP)), (b10, .inl (g.2.1, 6, .inl fG))] → va_S A s.heap H locs → lv_has ls 9 [(8, .int (nI j0 + (-1))), (4, .long (lN (zWr ra py T (T - j0)))), (6, .long (lN (1000000 + ra))), (0, .ref mo), (1, .int (nI k)), (2, .int (nI fr)), (3, .int (nI ra))] → W p l e (headSpec wsX2_worth ({ frames := 0, cells := 0, slots := 0, locals := 0 } : Room)).room s m ([.ref mo, .int (nI k), .int (nI fr), .int (nI ra)] : List Value).toArray below meth c H locs 0 0 (MQ below (va_Qi (fun q w => q = nI (zWr ra py T (T - fr)) ∧ w = [(mo, .inr (2, [.ref b0, .ref b1, .ref b2, .ref b3, .ref b4, .ref b5, .ref b6, .ref b7, .ref b8, .ref b9, .ref b10, .int (nI cnt), .int th])), (b0, .inl (g.2.1, 720, .inl fY)), (b1, .inl (g.2.1, 6, .inl fM)), (b2, .inl (g.2.1, 6, .inl fA)), (b3, .inl (g.2.1, 6, .inl fR)), (b4, .inl (g.2.1, 6, .inl fL)), (b5, .inl (g.2.1, 6, .inl fD)), (b6, .inl (g.2.1, 6, .inl fH)), (b7, .inl (g.2.1, 6, .inl fI)), (b8, .inl (g.2.1, 6, .inl fW)), (b9, .inl (g.2.1, 6, .inl fP)), (b10, .inl (g.2.1, 6, .inl fG))]) (zOut g A) A) ([.ref mo, .int (nI k), .int (nI fr), .int (nI ra)] : List Value).toArray s 0 0 A) (F0 m 21 ls []) := by
    intro n
    induction n with
    | zero =>
      intro j0 H locs ls hn hk1 hk2 hP hD hS hl
      omega
    | succ n ih =>
      intro j0 H locs ls hn hk1 hk2 hP hD hS hl
      refine lv_iload hx hb dX2_worth_21 (lv_at hl 0 rfl) ?_
      refine lv_iload_n hx hb dX2_worth_23 rfl (lv_at hl 5 rfl) ?_
      refine lv_icmp_lt (tgt := 63) hx hb dX2_worth_24 (by decide) (fun hc => ?_) (fun hc => ?_)
      · have hj : j0 = fr := by have := (z_dlt (by omega) (by omega)).mp hc; omega
        refine lv_lload hx hb dX2_worth_63 (lv_at hl 1 rfl) ?_
        refine z_l2i hx hb dX2_worth_65 ?_
        exact z_iret hx hb hr hP hK hD hS dX2_worth_66 hlocks (⟨by rw [hj], rfl⟩)
      · have hj : fr < j0 := by have := mt (z_dlt (by omega) (by omega)).mpr hc; omega
        obtain ⟨j, rfl⟩ : ∃ j, j0 = j + 1 := ⟨j0 - 1, by omega⟩
        have hpj := hp j (by omega) (by omega)
        have hwj := z_wb (r := ra) (j := j + 1) hT hp (by omega)
        refine lv_lload hx hb dX2_worth_27 (lv_at hl 1 rfl) ?_
        refine lv_aload_n hx hb dX2_worth_29 rfl (lv_at hl 3 rfl) ?_
        refine va_get (D := g.1) (ci := 2) (v := .ref b0) (C := RX2) (T := TX2) (N := 13) hx hb hts hinX2 hown hK hP 0 rfl rfl 0 (by decide) (hts (.fieldLink RX2 7 "UsewiseModel" "payments" "[I") (by decide +kernel)) (fun _ h9 => h9) rfl dX2_worth_30 ?_
        refine lv_bipush (v := nI 120) hx hb dX2_worth_33 (by decide) ?_
        refine lv_iload_n hx hb dX2_worth_35 rfl (lv_at hl 4 rfl) ?_
        refine z_imul hx hb dX2_worth_36 ?_
        refine lv_iload hx hb dX2_worth_37 (lv_at hl 0 rfl) ?_
        refine zi (y := nI j) (pk_m1 j) ?_
        refine z_iadd hx hb dX2_worth_39 ?_
        refine z_iald hx hb hK hP 1 0 rfl rfl (by omega) (by decide) dX2_worth_40 ?_
        refine zi (y := nI (py j)) (hmY j (by omega) (by omega)) ?_
        refine z_i2l hx hb dX2_worth_41 (by omega) ?_
        refine z_ladd hx hb dX2_worth_42 ?_
        refine lv_ldc2 (v := lN 1000000) hx hb hown (hts (.constantLong RX2 54 (1000000)) (by decide +kernel)) dX2_worth_43 ?_
        refine z_lmul hx hb dX2_worth_46 ?_
        refine lv_lload hx hb dX2_worth_47 (lv_at hl 2 rfl) ?_
        refine z_ladd hx hb dX2_worth_49 ?_
        refine lv_lconst (v := lN 1) hx hb dX2_worth_50 rfl ?_
        refine z_lsub hx hb dX2_worth_51 (by omega) ?_
        refine lv_lload hx hb dX2_worth_52 (lv_at hl 2 rfl) ?_
        refine z_ldiv hx hb dX2_worth_54 (by omega) (by omega) (by omega) ?_
        refine zl (y := lN (zWr ra py T (T - j))) (by rw [zWr_at ra py (by omega : j < T)]; rfl) ?_
        refine lv_lstore (lv' := [(4, .long (lN (zWr ra py T (T - j)))), (8, .int (nI (j + 1) + (-1))), (6, .long (lN (1000000 + ra))), (0, .ref mo), (1, .int (nI k)), (2, .int (nI fr)), (3, .int (nI ra))]) hx hb dX2_worth_55 hl (by decide) rfl (fun ls hl => ?_)
        refine lv_iinc (v := nI j + (-1)) (lv' := [(8, .int (nI j + (-1))), (4, .long (lN (zWr ra py T (T - j)))), (6, .long (lN (1000000 + ra))), (0, .ref mo), (1, .int (nI k)), (2, .int (nI fr)), (3, .int (nI ra))]) hx hb dX2_worth_57 hl (k := 1) rfl (by rw [pk_m1 j]; rfl) (by decide) rfl (fun ls hl => ?_)
        refine lv_goto (tgt := 21) hx hb dX2_worth_60 (by decide) ?_
        exact ih j H _ _ (by omega) (by omega) (by omega) hP hD hS (lv_sub hl [0, 1, 2, 3, 4, 5, 6] rfl)
  exact loop (T + 1) T _ _ _ (by omega) (by omega) (by omega) hP hD hS (lv_sub hl [0, 2, 1, 3, 4, 5, 6] rfl)
