/-! p20: what the law's sums rest on -/
/-- the greatest payment behind n reviews -/
def zPb : Nat → Nat
  | 0 => 12000
  | n + 1 => zPb n * 149 / 100
theorem zPb_ge : ∀ n, 12000 ≤ zPb n
  | 0 => Nat.le_refl _
  | n + 1 => by
    have := zPb_ge n
    show 12000 ≤ zPb n * 149 / 100
    omega
theorem zPb_step (n : Nat) : zPb n ≤ zPb (n + 1) := by
  show zPb n ≤ zPb n * 149 / 100
  omega
theorem zPb_mono {n k : Nat} (h : n ≤ k) : zPb n ≤ zPb k := by
  induction k with
  | zero => rw [Nat.le_zero.mp h]; exact Nat.le_refl _
  | succ k ih =>
    rcases Nat.lt_or_ge k n with h1 | h1
    · rw [show n = k + 1 by omega]; exact Nat.le_refl _
    · exact Nat.le_trans (ih h1) (zPb_step k)
theorem zPb_8 : zPb 8 ≤ 1000000 := by decide +kernel
theorem zPb_top {n : Nat} (h : n ≤ 8) : zPb n ≤ 1000000 := Nat.le_trans (zPb_mono h) zPb_8
/-- what the law's check of a lease asks, and what it rests on: the sums, nothing left when it is over, interest, payments -/
def zLk (r : Nat) (c : Int32) (n : Nat) : zS → Prop := fun (T, P, p, R, I, Pd, W, G) => nI R + W + I = nI (zWr r p T (T - P)) + c + Pd + G ∧ (P = T → R = 0) ∧ (∃ i : Nat, I = nI i ∧ i ≤ 3000000 * P) ∧ ∀ j, P ≤ j → j < T → p j ≤ zPb n
theorem zLk_up {r : Nat} {c : Int32} {n k : Nat} (h : n ≤ k) {z : zS} (hL : zLk r c n z) : zLk r c k z := by
  obtain ⟨T, P, p, R, I, Pd, W, G⟩ := z
  obtain ⟨h1, h2, h3, h4⟩ := hL
  exact ⟨h1, h2, h3, fun j a b => Nat.le_trans (h4 j a b) (zPb_mono h)⟩
theorem zLk_new {T0 x0 fr st rt cs : Nat} (hT0 : 1 ≤ T0) (hT : T0 ≤ 60) (hx : x0 ≤ 10000) (hs : st ≤ 299) : zLk rt (nI cs) 0 (zNew T0 x0 fr st rt cs) := by
  refine ⟨?_, fun h => absurd h (by omega), ⟨0, rfl, Nat.zero_le _⟩, fun j _ hj => ?_⟩
  · show nI (zWr rt (zPy x0 fr st) T0 (T0 - 0) + cs) + 0 + 0 = nI (zWr rt (zPy x0 fr st) T0 (T0 - 0)) + nI cs + 0 + 0
    rw [nI_add]
  · show zPy x0 fr st j ≤ 12000
    unfold zPy
    split
    · omega
    · have : st * (j / 12) ≤ 299 * 4 := Nat.mul_le_mul hs (by omega)
      omega
theorem zB_int {r x : Nat} (hr : r ≤ 20000) (hx : x ≤ 121000000) : x - zB r x ≤ 3000000 := by
  have h1 := zB_ge r x
  have h2 := zB_le r x
  have h3 : zB r x * r ≤ zB r x * 20000 := Nat.mul_le_mul_left _ hr
  rw [Nat.mul_add] at h1
  omega
theorem zLk_month {r f n : Nat} {c : Int32} {T P R : Nat} {p : Nat → Nat} {I Pd W G : Int32} (hZ : zInv r f (T, P, p, R, I, Pd, W, G)) (hL : zLk r c n (T, P, p, R, I, Pd, W, G)) (hP : P < T) : zLk r c n (zMonth r f (T, P, p, R, I, Pd, W, G)) := by
  have hW := zInv_W hZ r (P + 1) (Nat.le_succ P)
  obtain ⟨g1, g2, g3, g4, g5, g6⟩ := hZ
  obtain ⟨h1, h2, ⟨i, h3, h3'⟩, h4⟩ := hL
  have hp := g5 P (Nat.le_refl P) hP
  have e0 := zWr_at r p hP
  have e1 := zB_int (r := r) (x := zWr r p T (T - (P + 1)) + p P) g3 (by omega)
  have e2 := zB_le r (zWr r p T (T - (P + 1)) + p P)
  rw [← e0] at e1 e2
  have hm := zMW_pos f T P
  refine ⟨?_, fun h => ?_, ⟨i + (zWr r p T (T - (P + 1)) + p P - zWr r p T (T - P)), ?_, ?_⟩, fun j a b => h4 j (by omega) b⟩
  · have e3 : nI R = nI (R - R / zMW f T P) + nI (R / zMW f T P) := by rw [nI_add, Nat.sub_add_cancel (Nat.div_le_self _ _)]
    rw [e3] at h1
    show nI (R - R / zMW f T P) + (W + nI (R / zMW f T P)) + (I + (nI (zWr r p T (T - (P + 1))) + nI (p P) - nI (zWr r p T (T - P)))) = nI (zWr r p T (T - (P + 1))) + c + (Pd + nI (p P)) + G
    revert h1
    clear e3 h3 e0 e1 e2 h2 h4 g5
    generalize nI (R - R / zMW f T P) = a1
    generalize nI (R / zMW f T P) = a2
    generalize nI (zWr r p T (T - (P + 1))) = a3
    generalize nI (zWr r p T (T - P)) = a4
    generalize nI (p P) = a5
    intro h1
    grind
  · have hm1 : zMW f T P = 1 := by unfold zMW; omega
    show R - R / zMW f T P = 0
    rw [hm1, Nat.div_one, Nat.sub_self]
  · rw [h3, nI_add, pk_sub e2, nI_add]
  · omega
theorem zLk_it {r f n : Nat} {c : Int32} {z : zS} (hZ : zInv r f z) (hL : zLk r c n z) : ∀ k, z.2.1 + k ≤ z.1 → zLk r c n (zIt r f k z)
  | 0, _ => hL
  | k + 1, hk => by
    have h1 := zLk_it hZ hL k (by omega)
    have h0 := zInv_it hZ k (by omega)
    have h2 := zIt_T r f z k
    have h3 := zIt_P r f z k
    show zLk r c n (zMonth r f (zIt r f k z))
    generalize zIt r f k z = y at h0 h1 h2 h3
    obtain ⟨T, P, p, R, I, Pd, W, G⟩ := y
    exact zLk_month h0 h1 (by dsimp only at h2 h3; omega)
theorem zLk_fol {r n k : Nat} {c : Int32} {T P R : Nat} {p : Nat → Nat} {I Pd W G : Int32} {T' : Nat} {p' : Nat → Nat} (hL : zLk r c n (T, P, p, R, I, Pd, W, G)) (hP : P < T') (hp : ∀ j, P ≤ j → j < T' → p' j ≤ zPb k) : zLk r c k (zFol r T' p' (T, P, p, R, I, Pd, W, G)) := by
  obtain ⟨h1, h2, h3, h4⟩ := hL
  unfold zFol
  dsimp only
  split
  · refine ⟨?_, fun h => absurd h (by omega), h3, hp⟩
    have e0 : nI 0 = (0 : Int32) := rfl
    rw [e0]
    revert h1
    clear h2 h3 h4 hp e0
    generalize nI R = a1
    generalize nI (zWr r p T (T - P)) = a2
    generalize nI (zWr r p' T' (T' - P)) = a3
    intro h1
    grind
  · rename_i hlt
    refine ⟨?_, fun h => absurd h (by omega), h3, hp⟩
    rw [← pk_sub (a := R + zWr r p' T' (T' - P)) (b := zWr r p T (T - P)) (by omega), ← nI_add]
    revert h1
    clear h2 h3 h4 hp hlt
    generalize nI R = a1
    generalize nI (zWr r p T (T - P)) = a2
    generalize nI (zWr r p' T' (T' - P)) = a3
    intro h1
    grind
theorem zLk_giv {r n : Nat} {c : Int32} {T P R : Nat} {p : Nat → Nat} {I Pd W G : Int32} {T' R' : Nat} {p' : Nat → Nat} (hL : zLk r c n (T, P, p, R, I, Pd, W, G)) (hP : P < T') (hp : ∀ j, P ≤ j → j < T' → p' j ≤ zPb n) : zLk r c n (zGiv r T' p' R' (T, P, p, R, I, Pd, W, G)) := by
  obtain ⟨h1, h2, h3, h4⟩ := hL
  refine ⟨?_, fun h => absurd h (by omega), h3, hp⟩
  show nI R' + W + I = nI (zWr r p' T' (T' - P)) + c + Pd + (G + (nI (zWr r p T (T - P)) - nI (zWr r p' T' (T' - P)) - (nI R - nI R')))
  revert h1
  clear h2 h3 h4 hp
  generalize nI R = a1
  generalize nI R' = a4
  generalize nI (zWr r p T (T - P)) = a2
  generalize nI (zWr r p' T' (T' - P)) = a3
  intro h1
  grind
/-- the gains that a lease's numbers hold -/
def zGA : zS → Int32 := fun (_, _, _, _, _, _, _, G) => G
theorem zD_fol {r T' : Nat} {p' : Nat → Nat} {T P R : Nat} {p : Nat → Nat} {I Pd W G : Int32} : zD r (zFol r T' p' (T, P, p, R, I, Pd, W, G)) = zWr r p' T' (T' - P) := by
  unfold zFol
  dsimp only
  split <;> rfl
