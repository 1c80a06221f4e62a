/-! multiply, from the highest limb down: i low limbs are still to be taken -/
def gMulI (a o L : Nat → Nat) (i : Nat) : Prop := (∀ k, k < 6 → L k < gB) ∧ (∀ k, k < i → L k = a k) ∧ ∃ t d, gval a 6 = gval a i + d ∧ gval L 6 + t * gB ^ 6 = gval a i + d * gval o 6
/-- .. and within: j limbs of the other one are done, x is the limb that is taken, L the limbs with that one 0 -/
def gMulJ (L o M : Nat → Nat) (x i j c : Nat) : Prop := i + j ≤ 6 ∧ c < gB ∧ (∀ k, k < 6 → M k < gB) ∧ (∀ k, k < i → M k = L k) ∧ (∀ k, i + j ≤ k → M k = L k) ∧ gval M (i + j) + c * gB ^ (i + j) = gval L (i + j) + x * gval o j * gB ^ i
theorem gMulJ_0 {L o : Nat → Nat} {x i : Nat} (hi : i ≤ 6) (h : ∀ k, k < 6 → L k < gB) : gMulJ L o L x i 0 0 :=
  ⟨by omega, gB_pos, h, fun _ _ => rfl, fun _ _ => rfl, by simp [gval]⟩
theorem gMulJ_s {L o M : Nat → Nat} {x i j c c' y : Nat} (hx : x < gB) (ho : ∀ k, k < 6 → o k < gB) (h : gMulJ L o M x i j c) (hi : i + j < 6) (hc : c' = (M (i + j) + x * o j + c) / gB) (hy : y + c' * gB = M (i + j) + x * o j + c) : gMulJ L o (va_up M (i + j) y) x i (j + 1) c' := by
  obtain ⟨h1, h2, h3, h4, h5, h6⟩ := h
  have e1 := h3 (i + j) hi
  have e2 := ho j (by omega)
  have e3 := h5 (i + j) (Nat.le_refl _)
  have hb : c' < gB ∧ y < gB := by
    have e8 : x * o j ≤ 9999999800000001 := Nat.le_trans (Nat.mul_le_mul (Nat.le_sub_one_of_lt hx) (Nat.le_sub_one_of_lt e2)) (by decide)
    generalize x * o j = z at hc hy e8
    generalize M (i + j) = w at hc hy e1
    have e9 : gB = 100000000 := rfl
    rw [e9] at hc hy h2 e1 ⊢
    omega
  refine ⟨by omega, hb.1, fun k hk => ?_, fun k hk => ?_, fun k hk => ?_, ?_⟩
  · by_cases q : k = i + j
    · rw [q, va_up_self]; exact hb.2
    · rw [va_up_ne _ _ q]; exact h3 k hk
  · rw [va_up_ne _ _ (by omega)]; exact h4 k hk
  · rw [va_up_ne _ _ (by omega)]; exact h5 k (by omega)
  · rw [← Nat.add_assoc, gval_s, gval_s, gval_s, gval_up, va_up_self, ← e3]
    have e4 : gB ^ (i + j + 1) = gB * gB ^ (i + j) := by rw [Nat.pow_succ, Nat.mul_comm]
    have e5 : (y + c' * gB) * gB ^ (i + j) = (M (i + j) + x * o j + c) * gB ^ (i + j) := by rw [hy]
    have e6 : x * (gval o j + o j * gB ^ j) * gB ^ i = x * gval o j * gB ^ i + x * o j * gB ^ (i + j) := by
      rw [Nat.mul_add, Nat.add_mul, Nat.pow_add, ← Nat.mul_assoc x (o j) (gB ^ j), Nat.mul_assoc (x * o j), Nat.mul_comm (gB ^ j) (gB ^ i)]
    rw [Nat.add_mul, Nat.add_mul, Nat.add_mul, Nat.mul_assoc] at e5
    rw [e4, e6]
    omega
/-- what lies above a place, as a number -/
theorem gval_split (a : Nat → Nat) {m n : Nat} (h : m ≤ n) : ∃ r, gval a n = gval a m + r * gB ^ m := by
  induction n with
  | zero =>
    have : m = 0 := by omega
    subst this
    exact ⟨0, by omega⟩
  | succ n ih =>
    by_cases q : m = n + 1
    · subst q; exact ⟨0, by omega⟩
    · obtain ⟨r, hr⟩ := ih (by omega)
      refine ⟨r + a n * gB ^ (n - m), ?_⟩
      have e : gB ^ n = gB ^ (n - m) * gB ^ m := by rw [← Nat.pow_add]; congr 1; omega
      rw [gval_s, hr, Nat.add_mul, Nat.mul_assoc, ← e]
      omega
theorem gval_above {a b : Nat → Nat} {m n : Nat} (h : m ≤ n) (hab : ∀ k, m ≤ k → k < n → a k = b k) : gval a n + gval b m = gval b n + gval a m := by
  induction n with
  | zero =>
    have : m = 0 := by omega
    subst this; rfl
  | succ n ih =>
    by_cases q : m = n + 1
    · subst q; omega
    · have := ih (by omega) (fun k h1 h2 => hab k h1 (by omega))
      rw [gval_s, gval_s, hab n (by omega) (by omega)]
      omega
theorem gMulJ_end {L o M : Nat → Nat} {m x i j c : Nat} (hm : ∀ k, m ≤ k → k < 6 → o k = 0) (h : gMulJ L o M x i j c) (hx : 6 ≤ i + j ∨ (m ≤ j ∧ c = 0)) : ∃ t, gval M 6 + t * gB ^ 6 = gval L 6 + x * gval o 6 * gB ^ i := by
  obtain ⟨h1, h2, h3, h4, h5, h6⟩ := h
  by_cases q : 6 ≤ i + j
  · have q6 : i + j = 6 := by omega
    obtain ⟨r, hr⟩ := gval_split o (m := j) (n := 6) (by omega)
    refine ⟨c + x * r, ?_⟩
    rw [q6] at h6
    have e : x * (gval o j + r * gB ^ j) * gB ^ i = x * gval o j * gB ^ i + x * r * gB ^ 6 := by
      rw [← q6, Nat.mul_add, Nat.add_mul, Nat.pow_add, ← Nat.mul_assoc x r (gB ^ j), Nat.mul_assoc (x * r), Nat.mul_comm (gB ^ j) (gB ^ i)]
    rw [hr, e, Nat.add_mul]
    omega
  · obtain ⟨q1, q2⟩ : m ≤ j ∧ c = 0 := by omega
    refine ⟨0, ?_⟩
    have e1 := gval_top (a := o) (m := j) (n := 6) (by omega) (fun k p1 p2 => hm k (by omega) p2)
    have e2 := gval_above (a := M) (b := L) (m := i + j) (n := 6) (by omega) (fun k p1 _ => h5 k p1)
    rw [e1]
    rw [q2] at h6
    omega
theorem gval_clear {L : Nat → Nat} {i : Nat} (hi : i < 6) : gval (va_up L i 0) 6 + L i * gB ^ i = gval L 6 := by
  have e := gval_above (a := va_up L i 0) (b := L) (m := i + 1) (n := 6) (by omega) (fun k p1 _ => va_up_ne _ _ (by omega))
  rw [gval_s (va_up L i 0) i, gval_s L i, gval_up, va_up_self] at e
  omega
theorem gMulI_0 {a o : Nat → Nat} {n : Nat} (h : gOk a n) : gMulI a o a n :=
  ⟨h.2.1, fun _ _ => rfl, 0, 0, by rw [gval_top (a := a) h.1 h.2.2]; omega, by rw [gval_top (a := a) h.1 h.2.2]; omega⟩
theorem gMulI_s {a o L M : Nat → Nat} {m i j c : Nat} (hi : i < 6) (hm : ∀ k, m ≤ k → k < 6 → o k = 0) (h : gMulI a o L (i + 1)) (hj : gMulJ (va_up L i 0) o M (L i) i j c) (hx : 6 ≤ i + j ∨ (m ≤ j ∧ c = 0)) : gMulI a o M i := by
  obtain ⟨h1, h2, t, d, h3, h4⟩ := h
  obtain ⟨t', ht⟩ := gMulJ_end hm hj hx
  obtain ⟨j1, j2, j3, j4, j5, j6⟩ := hj
  refine ⟨j3, fun k hk => by rw [j4 k hk, va_up_ne _ _ (by omega)]; exact h2 k (by omega), t + t', a i * gB ^ i + d, ?_, ?_⟩
  · rw [gval_s a i] at h3; omega
  · have e := gval_clear (L := L) hi
    rw [gval_s a i] at h4
    rw [h2 i (by omega)] at ht e
    have e1 : (a i * gB ^ i + d) * gval o 6 = a i * gval o 6 * gB ^ i + d * gval o 6 := by
      rw [Nat.add_mul, Nat.mul_assoc, Nat.mul_comm (gB ^ i), ← Nat.mul_assoc]
    rw [e1, Nat.add_mul]
    omega
/-- the end of multiply: the limbs above u are 0, and u is where they begin -/
theorem gMul_le {a o L : Nat → Nat} {n m : Nat} (ha : gOk a n) (ho : gOk o m) (h : gMulI a o L 0) (k : Nat) (h1 : n + m ≤ k) (h2 : k < 6) : L k = 0 := by
  obtain ⟨-, -, t, d, e1, e2⟩ := h
  have e3 := gval_top (a := a) ha.1 ha.2.2
  have e4 := gval_top (a := o) ho.1 ho.2.2
  have e5 := gval_lt (a := a) (n := n) (fun i hi => ha.2.1 i (by have := ha.1; omega))
  have e6 := gval_lt (a := o) (n := m) (fun i hi => ho.2.1 i (by have := ho.1; omega))
  have e7 : gval a n * gval o m < gB ^ n * gB ^ m := Nat.mul_lt_mul'' e5 e6
  rw [← Nat.pow_add] at e7
  refine gval_zero (n := 6) (m := n + m) ?_ h1 h2
  have e0 : gval a 0 = 0 := rfl
  have e8 : d = gval a n := by omega
  rw [e4, e8] at e2
  omega
theorem gMul_end {a o L : Nat → Nat} {n m u v w : Nat} (ha : gRep a n v) (ho : gRep o m w) (h : gMulI a o L 0) (hu : u ≤ 6) (hz : ∀ k, u ≤ k → k < 6 → L k = 0) (hn : 0 < u → L (u - 1) ≠ 0) : gRep L u (v * w) := by
  obtain ⟨h1, -, t, d, e1, e2⟩ := h
  refine ⟨⟨hu, h1, hz⟩, fun hv => ⟨?_, hn⟩⟩
  have e0 : gval a 0 = 0 := rfl
  have hd : d = gval a 6 := by omega
  have key : gval a 6 * gval o 6 = v * w := by
    by_cases q : v < gB ^ 6
    · by_cases q2 : w < gB ^ 6
      · rw [(ha.2 q).1, (ho.2 q2).1]
      · have hv0 : v = 0 := by
          rcases Nat.eq_zero_or_pos v with p | p
          · exact p
          · have : 1 * w ≤ v * w := Nat.mul_le_mul_right _ p
            omega
        rw [(ha.2 q).1, hv0, Nat.zero_mul, Nat.zero_mul]
    · have hw0 : w = 0 := by
        rcases Nat.eq_zero_or_pos w with p | p
        · exact p
        · have : v * 1 ≤ v * w := Nat.mul_le_mul_left _ p
          omega
      rw [(ho.2 (by rw [hw0]; exact gpow_pos 6)).1, hw0, Nat.mul_zero, Nat.mul_zero]
  rw [hd, key, e0] at e2
  have ht : t = 0 := by
    rcases Nat.eq_zero_or_pos t with p | p
    · exact p
    · have : 1 * gB ^ 6 ≤ t * gB ^ 6 := Nat.mul_le_mul_right _ p
      omega
  rw [ht] at e2
  omega
/-- isAtLeast: equal above i, greater at i -/
theorem gval_gt {a o : Nat → Nat} {i : Nat} (hi : i < 6) (ho : ∀ k, k < 6 → o k < gB) (he : ∀ k, i < k → k < 6 → a k = o k) (h : o i < a i) : gval o 6 < gval a 6 := by
  have e := gval_above (a := a) (b := o) (m := i + 1) (n := 6) (by omega) (fun k h1 h2 => he k (by omega) h2)
  rw [gval_s a i, gval_s o i] at e
  have e1 := gval_lt (a := o) (n := i) (fun k hk => ho k (by omega))
  have e2 : (o i + 1) * gB ^ i ≤ a i * gB ^ i := Nat.mul_le_mul_right _ h
  rw [Nat.add_mul, Nat.one_mul] at e2
  omega
/-- digits -/
theorem gval_limb {a : Nat → Nat} {n q : Nat} (h : ∀ k, k < n → a k < gB) (hq : q < n) : gval a n / gB ^ q % gB = a q := by
  obtain ⟨r, hr⟩ := gval_split a (m := q + 1) (n := n) (by omega)
  have e1 := gval_lt (a := a) (n := q) (fun k hk => h k (by omega))
  have e4 : gB ^ (q + 1) = gB * gB ^ q := by rw [Nat.pow_succ, Nat.mul_comm]
  have e5 : gval a n = gval a q + (a q + r * gB) * gB ^ q := by
    rw [hr, gval_s, e4, Nat.add_mul, Nat.mul_assoc]
    omega
  rw [e5, Nat.add_mul_div_right _ _ (gpow_pos q), Nat.div_eq_of_lt e1, Nat.zero_add, Nat.add_mul_mod_self_right]
  exact Nat.mod_eq_of_lt (h q hq)
theorem g_ten (r : Nat) (hr : r < 8) : gB = 10 ^ (r + 1) * 10 ^ (7 - r) := by
  rw [← Nat.pow_add, show r + 1 + (7 - r) = 8 by omega]; decide
theorem g_digit {v q r x : Nat} (hr : r < 8) (hx : v / gB ^ q % gB = x) : v / 10 ^ (8 * q + r) % 10 = x / 10 ^ r % 10 := by
  have e1 : (10 : Nat) ^ (8 * q + r) = gB ^ q * 10 ^ r := by
    rw [Nat.pow_add, Nat.pow_mul]
    rfl
  rw [e1, ← Nat.div_div_eq_div_mul, ← hx]
  generalize v / gB ^ q = z
  rw [g_ten r hr, Nat.pow_succ, Nat.mul_assoc, Nat.mod_mul_right_div_self, Nat.mod_mul_right_mod]
