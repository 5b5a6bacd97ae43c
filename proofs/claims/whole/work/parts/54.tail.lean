/-! the law: behind both answers -/
/-- the loop goes on: both sides agree -/
abbrev zNx (p : Program) (l : Launch) (e : Env) (s : State) (m : MethodId) (below : List Frame) (meth : Method) (c : Code) (Q : State → Prop) (g : zG) (mo : Nat) (ad : zAd) (oa ua ar b i cells slots : Nat) : Prop := ∀ (S : zSt) (th : Int32) (o : Nat → Int64) (H : Heap) (locs : List Loc) (ls : Array Slot), zI S → va_P g.1 vwCl (zWm g mo ad th S.1 S.2.2.2.2.2.2.2 ++ zWc g oa ua ar o S) H → va_D (fun q : Nat => s.heap.size ≤ q) (zWm g mo ad th S.1 S.2.2.2.2.2.2.2 ++ zWc g oa ua ar o S) → va_S (fun q : Nat => s.heap.size ≤ q) s.heap H locs → lv_has ls 7 [(0, .ref b), (1, .ref ua), (2, .ref mo), (3, .ref oa), (4, .int (nI i))] → W p l e room_1 s m #[Value.ref b] below meth c H locs (cells + 11) (slots + 301) Q (F0 m 1260 ls [])
section ZLW
variable {p : Program} {l : Launch} {e : Env} {s : State} {m : MethodId} {below : List Frame} {meth : Method} {c : Code} {b L : Nat} {xs : Nat → Int32} {g : zG} {mo oa ua ar i cells slots c1 s1 : Nat} {ad : zAd} {Q : State → Prop} {S : zSt} {th : Int32} {o : Nat → Int64} {H : Heap} {locs : List Loc} {ls : Array Slot}
theorem z_sld {R : Room} {args : Array Value} {cc : ByteArray} {A : Nat → Prop} {H0 : Heap} {pc : Nat} {rest : List Value} (hx : p.tables.exec = Jvm.exec) (hb : c.code = cc) (hX : va_X b L xs s H0) (hbl : b < H0.size) (hbA : ¬ A b) (hS : va_S A H0 H locs) {j : Nat} (hj : j < L) (hL : L ≤ 4096) (d : decode cc pc = .ok (.iaload, 1)) (k : W p l e R s m args below meth c H locs cells slots Q (F0 m (pc + 1) ls (.int (xs j) :: rest))) : W p l e R s m args below meth c H locs cells slots Q (F0 m pc ls (.int (nI j) :: .ref b :: rest)) := va_sld hx hb hX hbl hbA hS (vp_in_nI hj (by omega)) d (zi (by rw [nI_clamp (by omega)]) k)
theorem L_tail {pc : Nat} {r q : Int32} {wC wM : va_W} {off : Int} (C0 : lw_At p s m meth c b L xs) (hK : zK g s) (ht : zTog g mo ad oa ua ar r q wC wM) (hP : va_P g.1 vwCl (wM ++ wC) H) (hD : va_D (fun q : Nat => s.heap.size ≤ q) (wM ++ wC)) (hS : va_S (fun q : Nat => s.heap.size ≤ q) s.heap H locs) (hl : lv_has ls 7 [(5, .int r), (0, .ref b), (1, .ref ua), (2, .ref mo), (3, .ref oa), (4, .int (nI i))])
    (kk : zNx p l e s m below meth c Q g mo ad oa ua ar b i cells slots) (hc1 : c1 ≤ cells + 11) (hs1 : s1 ≤ slots + 301) (hc0 : cells + 11 ≤ room_1.cells) (hs0 : slots + 301 ≤ room_1.slots)
    (d0 : decode cL_law pc = .ok (.istore 6, 2)) (d2 : decode cL_law (pc + 2) = .ok (.aload_n 2, 1)) (d3 : decode cL_law (pc + 3) = .ok (.invokevirtual 80, 3)) (d6 : decode cL_law (pc + 6) = .ok (.iload 5, 2)) (d8 : decode cL_law (pc + 8) = .ok (.if_icmp .eq 5, 3)) (d13 : decode cL_law (pc + 13) = .ok (.iload 5, 2)) (d15 : decode cL_law (pc + 15) = .ok (.ifCond .ne 15, 3)) (d18 : decode cL_law (pc + 18) = .ok (.aload_n 3, 1)) (d19 : decode cL_law (pc + 19) = .ok (.iconst 0, 1)) (d20 : decode cL_law (pc + 20) = .ok (.laload, 1)) (d21 : decode cL_law (pc + 21) = .ok (.iload 6, 2)) (d23 : decode cL_law (pc + 23) = .ok (.i2l, 1)) (d24 : decode cL_law (pc + 24) = .ok (.lcmp, 1)) (d25 : decode cL_law (pc + 25) = .ok (.ifCond .eq 5, 3)) (d30 : decode cL_law (pc + 30) = .ok (.goto off, 3)) (hoff : ((pc + 30 : Nat) : Int) + off = (1260 : Nat)) :
    W p l e room_1 s m #[Value.ref b] below meth c H locs c1 s1 Q (F0 m pc ls [.int q]) := by
  obtain ⟨hx, hb, hr, hml, hown, hts0, hXs, hbl, hlocks, hgv⟩ := id C0
  have hown : s.vm.findClass RL = some m.cls := hown
  have hts : ∀ w ∈ wsL_law, w.before #[Value.ref b] s = true := fun w h => hts0 w (wsL_law_in w h)
  have hA : ∀ q : Nat, s.heap.size ≤ q → (fun q : Nat => s.heap.size ≤ q) q := fun _ h => h
  obtain ⟨S, th, o, hI, rfl, rfl, er, eo⟩ := ht
  refine lv_istore (lv' := [(6, .int q), (5, .int r), (0, .ref b), (1, .ref ua), (2, .ref mo), (3, .ref oa), (4, .int (nI i))]) hx hb d0 hl (by decide) rfl (fun ls hl => ?_)
  refine lv_aload_n hx hb d2 rfl (lv_at hl 4 rfl) ?_
  refine z_ai (wa := []) (wc := zWm g mo ad th S.1 S.2.2.2.2.2.2.2) (wb := zWc g oa ua ar o S) (va_runV (As := []) (rest := []) ⟨hx, hb, hml, hown, hts⟩ (m_thrown l g mo _ _ _ _ _ _ _ _ _ _ _ S.1 th _ _ _ _ _ _ _ _ _ _ _ H.size _ rfl) (cwV 0 hts gL_law_X2_thrown rfl rfl rfl (by decide +kernel) ⟨Nat.le_of_ble_eq_true rfl, Nat.le_of_ble_eq_true rfl⟩) (zpreV (wa := []) (wc := zWm g mo ad th S.1 S.2.2.2.2.2.2.2) (wb := zWc g oa ua ar o S) (q0 := 0) (ci := 2) (T := TX2) (N := 13) hK hP hD rfl rfl) rfl rfl hl.1 rfl (lv_room (Nat.le_of_ble_eq_true rfl)) d3 ⟨by omega, by omega⟩) hP hD hS hA (fun r2 w2 H locs hq hP hD hS => ?_)
  obtain ⟨e2, e3⟩ := hq
  subst e2; subst e3
  have last : ∀ ls : Array Slot, lv_has ls 7 [(6, .int q), (5, .int r), (0, .ref b), (1, .ref ua), (2, .ref mo), (3, .ref oa), (4, .int (nI i))] → W p l e room_1 s m #[Value.ref b] below meth c H locs (c1 + 0) (s1 + 0) Q (F0 m (pc + 30) ls []) := fun ls hl => by
    refine lv_goto (tgt := 1260) hx hb d30 hoff ?_
    refine W.widen (k := cells + 11) (n := slots + 301) (by omega) (by omega) ?_
    exact kk S r2 o H locs ls hI hP hD hS (lv_sub hl [2, 3, 4, 5, 6] rfl)
  refine lv_iload hx hb d6 (lv_at hl 1 rfl) ?_
  refine lv_icmp_eq (tgt := pc + 13) hx hb d8 (by omega) (fun _ => ?_) (fun h => absurd er.symm h)
  refine lv_iload hx hb d13 (lv_at hl 1 rfl) ?_
  refine lv_if_ne (tgt := pc + 30) hx hb d15 (by omega) (fun _ => last ls hl) (fun h => ?_)
  have h0 : r = nI 0 := by first | exact h | exact Decidable.not_not.mp h
  refine lv_aload_n hx hb d18 rfl (lv_at hl 5 rfl) ?_
  refine lv_iconst (v := nI 0) hx hb d19 (by decide) ?_
  refine va_lald hx hb hK hP 12 2 rfl rfl (vp_in_nI (by decide) (by decide)) d20 ?_
  refine lv_iload hx hb d21 (lv_at hl 0 rfl) ?_
  refine lv_i2l hx hb d23 rfl ?_
  refine z_lif_eq (tgt := pc + 30) (pc2 := pc + 25) hx hb d24 rfl d25 (by omega) (fun _ => last ls hl) (fun h => absurd ?_ h)
  rw [nI_clamp (by decide)]
  exact eo h0
end ZLW
