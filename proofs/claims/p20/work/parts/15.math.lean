/-! the numbers: worth, the state of a lease, its changes, its bounds -/
-- rows of kit/laws/COUNTS, pasted
theorem fb_rng (x : Int32) : -2147483648 ≤ x.toInt ∧ x.toInt < 2147483648 := by
  have h1 := Int32.le_toInt x
  have h2 := Int32.toInt_lt x
  omega
theorem fb_bmod {z : Int} (h1 : -2147483648 ≤ z) (h2 : z < 2147483648) : z.bmod (2 ^ 32) = z := by
  rw [Int.bmod_eq_of_le (by omega) (by omega)]
theorem fb_addI {x y : Int32} (h1 : -2147483648 ≤ x.toInt + y.toInt) (h2 : x.toInt + y.toInt < 2147483648) : (x + y).toInt = x.toInt + y.toInt := by
  rw [Int32.toInt_add, fb_bmod h1 h2]
theorem fb_subI {x y : Int32} (h1 : -2147483648 ≤ x.toInt - y.toInt) (h2 : x.toInt - y.toInt < 2147483648) : (x - y).toInt = x.toInt - y.toInt := by
  rw [Int32.toInt_sub, fb_bmod h1 h2]
theorem fb_mulI {x y : Int32} (h1 : -2147483648 ≤ x.toInt * y.toInt) (h2 : x.toInt * y.toInt < 2147483648) : (x * y).toInt = x.toInt * y.toInt := by
  rw [Int32.toInt_mul, fb_bmod h1 h2]
theorem fb_negI {x : Int32} (h : x.toInt ≠ -2147483648) : (-x).toInt = -x.toInt := by
  have := fb_rng x
  rw [Int32.toInt_neg, fb_bmod (by omega) (by omega)]
theorem fb_ofI {z : Int} (h1 : -2147483648 ≤ z) (h2 : z < 2147483648) : (Int32.ofInt z).toInt = z := by
  rw [Int32.toInt_ofInt, fb_bmod h1 h2]
theorem fb_asI (x : Int32) : Int32.ofInt x.toInt = x := Int32.ofInt_toInt x
theorem fb_rngL (x : Int64) : -9223372036854775808 ≤ x.toInt ∧ x.toInt < 9223372036854775808 := by
  have h1 := Int64.le_toInt x
  have h2 := Int64.toInt_lt x
  omega
theorem fb_bmodL {z : Int} (h1 : -9223372036854775808 ≤ z) (h2 : z < 9223372036854775808) : z.bmod (2 ^ 64) = z := by
  rw [Int.bmod_eq_of_le (by omega) (by omega)]
theorem fb_addL {x y : Int64} (h1 : -9223372036854775808 ≤ x.toInt + y.toInt) (h2 : x.toInt + y.toInt < 9223372036854775808) : (x + y).toInt = x.toInt + y.toInt := by
  rw [Int64.toInt_add, fb_bmodL h1 h2]
theorem fb_subL {x y : Int64} (h1 : -9223372036854775808 ≤ x.toInt - y.toInt) (h2 : x.toInt - y.toInt < 9223372036854775808) : (x - y).toInt = x.toInt - y.toInt := by
  rw [Int64.toInt_sub, fb_bmodL h1 h2]
theorem fb_mulL {x y : Int64} (h1 : -9223372036854775808 ≤ x.toInt * y.toInt) (h2 : x.toInt * y.toInt < 9223372036854775808) : (x * y).toInt = x.toInt * y.toInt := by
  rw [Int64.toInt_mul, fb_bmodL h1 h2]
-- end of the pasted rows
theorem z_m1 (k : Nat) : nI k - nI 1 = nI k + (-1) := by rw [Int32.sub_eq_add_neg]; rfl
theorem z_up {k : Nat} (h : 0 < k) : nI k + (-1) = nI (k - 1) := by
  obtain ⟨j, rfl⟩ : ∃ j, k = j + 1 := ⟨k - 1, by omega⟩
  exact pk_m1 j
theorem z32_64 (x : Int32) : x.toInt64.toInt32 = x := Int32.toInt32_toInt64 x
theorem z64_add (x y : Int64) : (x + y).toInt32 = x.toInt32 + y.toInt32 := Int64.toInt32_add x y
theorem z64_sub (x y : Int64) : (x - y).toInt32 = x.toInt32 - y.toInt32 := Int64.toInt32_sub x y
theorem z_upd_s (f : Nat → Int32) (k : Nat) (x : Int32) : upd f k x k = x := pk_us
theorem z_upd_n (f : Nat → Int32) {k j : Nat} (x : Int32) (h : j ≠ k) : upd f k x j = f j := pk_un h
theorem z_lt64 {a b : Nat} (ha : a < 2 ^ 63) (hb : b < 2 ^ 63) : lN a < lN b ↔ a < b := pk_lLT ha hb
def zB (r x : Nat) : Nat := (x * 1000000 + (1000000 + r) - 1) / (1000000 + r)
theorem zB_iff (r x q : Nat) : zB r x ≤ q ↔ x * 1000000 ≤ q * (1000000 + r) := by
  unfold zB
  have h : ∀ q, (x * 1000000 + (1000000 + r) - 1) / (1000000 + r) < q + 1 ↔ x * 1000000 + (1000000 + r) - 1 < (q + 1) * (1000000 + r) := fun q => Nat.div_lt_iff_lt_mul (by omega)
  have h2 := h q
  rw [Nat.add_mul, Nat.one_mul] at h2
  constructor
  · intro h1
    have := h2.mp (by omega)
    omega
  · intro h1
    have := h2.mpr (by omega)
    omega
theorem zB_ge (r x : Nat) : x * 1000000 ≤ zB r x * (1000000 + r) := (zB_iff r x _).mp (Nat.le_refl _)
theorem zB_lt (r x : Nat) : zB r x * (1000000 + r) ≤ x * 1000000 + (1000000 + r) - 1 := Nat.div_mul_le_self _ _
theorem zB_le (r x : Nat) : zB r x ≤ x := (zB_iff r x x).mpr (Nat.mul_le_mul_left x (by omega))
theorem zB_mono (r : Nat) {x y : Nat} (h : x ≤ y) : zB r x ≤ zB r y := (zB_iff r x _).mpr (Nat.le_trans (Nat.mul_le_mul_right _ h) (zB_ge r y))
theorem zB_anti {r r' : Nat} (h : r ≤ r') (x : Nat) : zB r' x ≤ zB r x := (zB_iff r' x _).mpr (Nat.le_trans (zB_ge r x) (Nat.mul_le_mul_left _ (by omega)))
theorem zB_add (r y e : Nat) : zB r (y + e) ≤ zB r y + e := (zB_iff r _ _).mpr (by
  rw [Nat.add_mul, Nat.add_mul]
  exact Nat.add_le_add (zB_ge r y) (Nat.mul_le_mul_left e (by omega)))
/-- the worth of the last n payments of T -/
def zWr (r : Nat) (p : Nat → Nat) (T : Nat) : Nat → Nat
  | 0 => 0
  | n + 1 => zB r (zWr r p T n + p (T - (n + 1)))
theorem zWr_0 (r : Nat) (p : Nat → Nat) (T : Nat) : zWr r p T 0 = 0 := rfl
theorem zWr_s (r : Nat) (p : Nat → Nat) (T n : Nat) : zWr r p T (n + 1) = zB r (zWr r p T n + p (T - (n + 1))) := rfl
theorem zWr_at (r : Nat) (p : Nat → Nat) {T j : Nat} (h : j < T) : zWr r p T (T - j) = zB r (zWr r p T (T - (j + 1)) + p j) := by
  rw [show T - j = (T - (j + 1)) + 1 by omega, zWr_s, show T - (T - (j + 1) + 1) = j by omega]
theorem zWr_cong {r : Nat} {p q : Nat → Nat} {T : Nat} : ∀ n, (∀ j, T - n ≤ j → j < T → p j = q j) → n ≤ T → zWr r p T n = zWr r q T n
  | 0, _, _ => rfl
  | n + 1, h, hn => by
    rw [zWr_s, zWr_s, zWr_cong n (fun j h1 h2 => h j (by omega) h2) (by omega), h (T - (n + 1)) (Nat.le_refl _) (by omega)]
theorem zWr_le {r M : Nat} {p : Nat → Nat} {T : Nat} : ∀ n, (∀ j, T - n ≤ j → j < T → p j ≤ M) → n ≤ T → zWr r p T n ≤ M * n
  | 0, _, _ => Nat.zero_le _
  | n + 1, h, hn => by
    have h1 := zWr_le (r := r) n (fun j h1 h2 => h j (by omega) h2) (by omega)
    have h2 := h (T - (n + 1)) (Nat.le_refl _) (by omega)
    have h3 := zB_le r (zWr r p T n + p (T - (n + 1)))
    rw [zWr_s, Nat.mul_add, Nat.mul_one]
    omega
theorem zWr_anti {r r' : Nat} (h : r ≤ r') (p : Nat → Nat) (T : Nat) : ∀ n, zWr r' p T n ≤ zWr r p T n
  | 0 => Nat.le_refl _
  | n + 1 => by
    rw [zWr_s, zWr_s]
    exact Nat.le_trans (zB_mono r' (Nat.add_le_add_right (zWr_anti h p T n) _)) (zB_anti h _)
theorem zWr_step (r : Nat) (p : Nat → Nat) {T j : Nat} (h : j < T) : zWr r p T (T - j) ≤ zWr r p T (T - (j + 1)) + p j := by
  rw [zWr_at r p h]; exact zB_le _ _
/-- months taken off -/
theorem zWr_off {r M : Nat} {p : Nat → Nat} {T k : Nat} : ∀ m, (∀ j, T - (m + k) ≤ j → j < T → p j ≤ M) → m + k ≤ T → zWr r p T (m + k) ≤ zWr r p (T - k) m + M * k
  | 0, h, hk => by
    rw [Nat.zero_add] at h hk ⊢
    rw [zWr_0, Nat.zero_add]
    exact zWr_le k h hk
  | m + 1, h, hk => by
    have h1 := zWr_off (r := r) (k := k) m (fun j h1 h2 => h j (by omega) h2) (by omega)
    rw [show m + 1 + k = (m + k) + 1 by omega, zWr_s, zWr_s, show T - (m + k + 1) = T - k - (m + 1) by omega]
    refine Nat.le_trans (zB_mono r (y := zWr r p (T - k) m + p (T - k - (m + 1)) + M * k) (by omega)) (zB_add r _ _)
def zSc (a : Nat) (p : Nat → Nat) : Nat → Nat := fun j => p j * a / 100
theorem zWr_cut {r a : Nat} (ha : a ≤ 100) (p : Nat → Nat) (T : Nat) : ∀ n, a * zWr r p T n ≤ 100 * zWr r (zSc a p) T n + 200 * n
  | 0 => by rw [zWr_0]; omega
  | n + 1 => by
    have ih := zWr_cut (r := r) ha p T n
    rw [zWr_s, zWr_s]
    generalize hq : p (T - (n + 1)) = q
    have hq2 : zSc a p (T - (n + 1)) = q * a / 100 := by unfold zSc; rw [hq]
    rw [hq2]
    generalize zWr r p T n = w at ih ⊢
    generalize zWr r (zSc a p) T n = w' at ih ⊢
    have h1 := zB_lt r (w + q)
    have h2 := zB_ge r (w' + q * a / 100)
    generalize zB r (w + q) = y at h1 ⊢
    generalize zB r (w' + q * a / 100) = y' at h2 ⊢
    have h3 : q * a ≤ 100 * (q * a / 100) + 99 := by omega
    generalize q * a / 100 = q' at h2 h3 ⊢
    have hd : 0 < 1000000 + r := by omega
    have h4 : a * (w + q) ≤ 100 * (w' + q') + (200 * n + 99) := by
      rw [Nat.mul_add, Nat.mul_comm a q]; omega
    have h5 : a * y * (1000000 + r) ≤ (100 * y' + 200 * (n + 1)) * (1000000 + r) := by
      have e1 : a * y * (1000000 + r) = a * (y * (1000000 + r)) := Nat.mul_assoc _ _ _
      have e2 : a * (y * (1000000 + r)) ≤ a * ((w + q) * 1000000 + (1000000 + r)) := Nat.mul_le_mul_left a (by omega)
      have e3 : a * ((w + q) * 1000000 + (1000000 + r)) = a * (w + q) * 1000000 + a * (1000000 + r) := by rw [Nat.mul_add, Nat.mul_assoc]
      have e4 : a * (w + q) * 1000000 ≤ (100 * (w' + q') + (200 * n + 99)) * 1000000 := Nat.mul_le_mul_right _ h4
      have e5 : a * (1000000 + r) ≤ 100 * (1000000 + r) := Nat.mul_le_mul_right _ ha
      have e6 : (100 * y' + 200 * (n + 1)) * (1000000 + r) = 100 * (y' * (1000000 + r)) + (200 * n + 200) * (1000000 + r) := by rw [Nat.add_mul, Nat.mul_assoc, Nat.mul_add 200 n 1]
      have e7 : (200 * n + 200) * (1000000 + r) = (200 * n + 100) * (1000000 + r) + 100 * (1000000 + r) := by rw [← Nat.add_mul]
      have e8 : (200 * n + 100) * 1000000 ≤ (200 * n + 100) * (1000000 + r) := Nat.mul_le_mul_left _ (by omega)
      omega
    exact Nat.le_of_mul_le_mul_right h5 hd
/-- a lease: months in all, months past, payments, right, interest, paid, written, gains -/
abbrev zS : Type := Nat × Nat × (Nat → Nat) × Nat × Int32 × Int32 × Int32 × Int32
def zD (r : Nat) : zS → Nat := fun (T, P, p, _, _, _, _, _) => zWr r p T (T - P)
def zInv (r f : Nat) : zS → Prop := fun (T, P, p, R, _, _, _, _) => T ≤ 120 ∧ P ≤ T ∧ r ≤ 20000 ∧ f ≤ 120 ∧ (∀ j, P ≤ j → j < T → p j ≤ 1000000) ∧ R ≤ zWr r p T (T - P) + 120000000 + 1000000 * P
theorem zInv_D {r f T P R : Nat} {p : Nat → Nat} {I Pd W G : Int32} (h : zInv r f (T, P, p, R, I, Pd, W, G)) : zWr r p T (T - P) ≤ 1000000 * (T - P) := by
  obtain ⟨h1, h2, h3, h4, h5, h6⟩ := h
  exact zWr_le (T - P) (fun j a b => h5 j (by omega) b) (by omega)
theorem zInv_R {r f T P R : Nat} {p : Nat → Nat} {I Pd W G : Int32} (h : zInv r f (T, P, p, R, I, Pd, W, G)) : R ≤ 240000000 := by
  have h0 := zInv_D h
  obtain ⟨h1, h2, h3, h4, h5, h6⟩ := h
  omega
/-- any month's worth -/
theorem zInv_W {r f T P R : Nat} {p : Nat → Nat} {I Pd W G : Int32} (h : zInv r f (T, P, p, R, I, Pd, W, G)) (r' j : Nat) (hj : P ≤ j) : zWr r' p T (T - j) ≤ 120000000 := by
  obtain ⟨h1, h2, h3, h4, h5, h6⟩ := h
  have := zWr_le (r := r') (M := 1000000) (p := p) (T := T) (T - j) (fun i a b => h5 i (by omega) b) (by omega)
  omega
def zMW (f T P : Nat) : Nat := max 1 (min (T - P) (f - P))
def zMonth (r f : Nat) : zS → zS := fun (T, P, p, R, I, Pd, W, G) => (T, P + 1, p, R - R / zMW f T P, I + (nI (zWr r p T (T - (P + 1))) + nI (p P) - nI (zWr r p T (T - P))), Pd + nI (p P), W + nI (R / zMW f T P), G)
def zIt (r f : Nat) : Nat → zS → zS
  | 0, z => z
  | n + 1, z => zMonth r f (zIt r f n z)
/-- the debt is laid again, the right follows -/
def zFol (r : Nat) (T' : Nat) (p' : Nat → Nat) : zS → zS := fun (T, P, p, R, I, Pd, W, G) =>
  if R + zWr r p' T' (T' - P) < zWr r p T (T - P) then (T', P, p', 0, I, Pd, W, G - (nI R + (nI (zWr r p' T' (T' - P)) - nI (zWr r p T (T - P))))) else (T', P, p', R + zWr r p' T' (T' - P) - zWr r p T (T - P), I, Pd, W, G)
def zGn (r : Nat) (T' : Nat) (p' : Nat → Nat) (R' : Nat) : zS → Int32 := fun (T, P, p, R, _, _, _, _) => nI (zWr r p T (T - P)) - nI (zWr r p' T' (T' - P)) - (nI R - nI R')
/-- a part is given up -/
def zGiv (r : Nat) (T' : Nat) (p' : Nat → Nat) (R' : Nat) : zS → zS := fun (T, P, p, R, I, Pd, W, G) => (T', P, p', R', I, Pd, W, G + zGn r T' p' R' (T, P, p, R, I, Pd, W, G))
def zPut (T k x : Nat) (p : Nat → Nat) : Nat → Nat := fun j => if T ≤ j ∧ j < T + k then x else p j
theorem zInv_month {r f T P R : Nat} {p : Nat → Nat} {I Pd W G : Int32} (h : zInv r f (T, P, p, R, I, Pd, W, G)) (hP : P < T) : zInv r f (zMonth r f (T, P, p, R, I, Pd, W, G)) := by
  obtain ⟨h1, h2, h3, h4, h5, h6⟩ := h
  refine ⟨h1, hP, h3, h4, fun j a b => h5 j (by omega) b, ?_⟩
  have := zWr_step r p hP
  have := h5 P (Nat.le_refl _) hP
  have : R - R / zMW f T P ≤ R := Nat.sub_le _ _
  omega
theorem zIt_T (r f : Nat) (z : zS) : ∀ n, (zIt r f n z).1 = z.1
  | 0 => rfl
  | n + 1 => zIt_T r f z n
theorem zIt_P (r f : Nat) (z : zS) : ∀ n, (zIt r f n z).2.1 = z.2.1 + n
  | 0 => rfl
  | n + 1 => by
    show (zIt r f n z).2.1 + 1 = _
    rw [zIt_P r f z n]; rfl
theorem zInv_it {r f : Nat} {z : zS} (h : zInv r f z) : ∀ n, z.2.1 + n ≤ z.1 → zInv r f (zIt r f n z)
  | 0, _ => h
  | n + 1, hn => by
    have h1 := zInv_it h n (by omega)
    have h2 := zIt_T r f z n
    have h3 := zIt_P r f z n
    show zInv r f (zMonth r f (zIt r f n z))
    generalize zIt r f n z = y at h1 h2 h3
    obtain ⟨T, P, p, R, I, Pd, W, G⟩ := y
    exact zInv_month h1 (by dsimp only at h2 h3; omega)
theorem zInv_fol {r f T P R : Nat} {p : Nat → Nat} {I Pd W G : Int32} {T' : Nat} {p' : Nat → Nat} (h : zInv r f (T, P, p, R, I, Pd, W, G)) (hT : T' ≤ 120) (hP : P ≤ T') (hp : ∀ j, P ≤ j → j < T' → p' j ≤ 1000000) : zInv r f (zFol r T' p' (T, P, p, R, I, Pd, W, G)) := by
  obtain ⟨h1, h2, h3, h4, h5, h6⟩ := h
  unfold zFol
  dsimp only
  split
  · exact ⟨hT, hP, h3, h4, hp, by omega⟩
  · exact ⟨hT, hP, h3, h4, hp, by omega⟩
theorem zInv_cut {r f T P R : Nat} {p : Nat → Nat} {I Pd W G : Int32} {a : Nat} (h : zInv r f (T, P, p, R, I, Pd, W, G)) (ha : a ≤ 99) : zInv r f (zGiv r T (zSc a p) (R * a / 100) (T, P, p, R, I, Pd, W, G)) := by
  obtain ⟨h1, h2, h3, h4, h5, h6⟩ := h
  refine ⟨h1, h2, h3, h4, fun j x y => ?_, ?_⟩
  · have := h5 j x y
    have : p j * a ≤ p j * 100 := Nat.mul_le_mul_left _ (by omega)
    show p j * a / 100 ≤ 1000000
    omega
  · have h7 := zWr_cut (r := r) (a := a) (by omega) p T (T - P)
    have h8 : R * a ≤ (zWr r p T (T - P) + (120000000 + 1000000 * P)) * a := Nat.mul_le_mul_right a (by omega)
    rw [Nat.add_mul, Nat.mul_comm (zWr r p T (T - P)) a] at h8
    have h9 : (120000000 + 1000000 * P) * a ≤ (120000000 + 1000000 * P) * 99 := Nat.mul_le_mul_left _ ha
    omega
theorem zInv_off {r f T P R : Nat} {p : Nat → Nat} {I Pd W G : Int32} {k : Nat} (h : zInv r f (T, P, p, R, I, Pd, W, G)) (hk : k < T - P) : zInv r f (zGiv r (T - k) p (R * (T - k - P) / (T - P)) (T, P, p, R, I, Pd, W, G)) := by
  obtain ⟨h1, h2, h3, h4, h5, h6⟩ := h
  refine ⟨by omega, by omega, h3, h4, fun j x y => h5 j x (by omega), ?_⟩
  have h7 := zWr_off (r := r) (M := 1000000) (p := p) (T := T) (k := k) (T - k - P) (fun j a b => h5 j (by omega) b) (by omega)
  rw [show T - k - P + k = T - P by omega] at h7
  generalize hl : T - P = l at *
  have hl2 : T - k - P = l - k := by omega
  rw [hl2] at h7 ⊢
  rcases Nat.lt_or_ge R (1000000 * l) with hR | hR
  · have : R * (l - k) / l ≤ R := by
      refine Nat.le_trans (Nat.div_le_div_right (Nat.mul_le_mul_left R (Nat.sub_le l k))) ?_
      rw [Nat.mul_div_cancel _ (by omega)]
      exact Nat.le_refl R
    omega
  · have hx : R * (l - k) / l ≤ R - 1000000 * k := by
      have e1 : R * (l - k) ≤ (R - 1000000 * k) * l := by
        rw [Nat.mul_sub, Nat.sub_mul]
        have : 1000000 * k * l ≤ R * k := by
          rw [Nat.mul_right_comm]
          exact Nat.mul_le_mul_right k hR
        omega
      exact Nat.le_trans (Nat.div_le_div_right e1) (by rw [Nat.mul_div_cancel _ (by omega)]; exact Nat.le_refl _)
    omega
/-- what a lease's cells hold beside the numbers: interest, paid, written, gains as longs; payments, debts -/
abbrev zRaw : Type := Int64 × Int64 × Int64 × Int64 × (Nat → Int32) × (Nat → Int32)
abbrev zLW (g : zG) (a : Nat × Nat × Nat) (rt lf : Nat) (z : zS) (q : zRaw) : va_W := [(a.1, .inr (0, [.int (nI rt), .int (nI lf), .ref a.2.1, .ref a.2.2, .int (nI z.1), .int (nI z.2.1), .long (lN z.2.2.2.1), .long q.1, .long q.2.1, .long q.2.2.1, .long q.2.2.2.1])), (a.2.1, .inl (g.2.1, 120, .inl q.2.2.2.2.1)), (a.2.2, .inl (g.2.1, 121, .inl q.2.2.2.2.2))]
def zCR (rt : Nat) : zS → zRaw → Prop := fun (T, P, p, _, I, Pd, W, G) (xI, xP, xW, xG, u, v) => xI.toInt32 = I ∧ xP.toInt32 = Pd ∧ xW.toInt32 = W ∧ xG.toInt32 = G ∧ (∀ j, P ≤ j → j < T → u j = nI (p j)) ∧ ∀ j, P ≤ j → j ≤ T → v j = nI (zWr rt p T (T - j))
theorem z_fol1 {R D0 D1 : Nat} (h : D0 ≤ R + D1) : lN R + (lN D1 - lN D0) = lN (R + D1 - D0) := by
  rw [← lN_sub h, ← lN_add, Int64.sub_eq_add_neg, Int64.sub_eq_add_neg, Int64.add_assoc]
theorem z_fol2 {R D0 D1 : Nat} (h : R + D1 < D0) (hD : D0 < 2 ^ 31) : lN R + (lN D1 - lN D0) < lN 0 := by
  have e1 := fb_subL (x := lN D1) (y := lN D0) (by rw [lN_toInt (by omega), lN_toInt (by omega)]; omega) (by rw [lN_toInt (by omega), lN_toInt (by omega)]; omega)
  rw [lN_toInt (by omega), lN_toInt (by omega)] at e1
  rw [Int64.lt_iff_toInt_lt, fb_addL (by rw [e1, lN_toInt (by omega)]; omega) (by rw [e1, lN_toInt (by omega)]; omega), e1, lN_toInt (by omega), lN_toInt (by omega)]
  omega
