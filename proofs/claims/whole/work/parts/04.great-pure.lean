/-! Natural numbers in limbs of base 10^8: the pure part of Great -/
def gB : Nat := 100000000
def gval (a : Nat → Nat) : Nat → Nat
  | 0 => 0
  | n + 1 => gval a n + a n * gB ^ n
theorem gB_pos : 0 < gB := by decide
theorem gpow_pos (n : Nat) : 0 < gB ^ n := Nat.pow_pos gB_pos
theorem gval_s (a : Nat → Nat) (n : Nat) : gval a (n + 1) = gval a n + a n * gB ^ n := rfl
theorem gval_lt {a : Nat → Nat} {n : Nat} (h : ∀ i, i < n → a i < gB) : gval a n < gB ^ n := by
  induction n with
  | zero => simp [gval]
  | succ n ih =>
    have h1 := ih (fun i hi => h i (by omega))
    have h2 : a n + 1 ≤ gB := h n (by omega)
    have h3 : (a n + 1) * gB ^ n ≤ gB * gB ^ n := Nat.mul_le_mul_right _ h2
    have h4 : gB ^ (n + 1) = gB * gB ^ n := by rw [Nat.pow_succ, Nat.mul_comm]
    have h5 : (a n + 1) * gB ^ n = a n * gB ^ n + gB ^ n := by rw [Nat.add_mul, Nat.one_mul]
    rw [gval_s]
    omega
theorem gval_congr {a b : Nat → Nat} {n : Nat} (h : ∀ i, i < n → a i = b i) : gval a n = gval b n := by
  induction n with
  | zero => rfl
  | succ n ih => rw [gval_s, gval_s, ih (fun i hi => h i (by omega)), h n (by omega)]
theorem gval_top {a : Nat → Nat} {m n : Nat} (hmn : m ≤ n) (h : ∀ i, m ≤ i → i < n → a i = 0) : gval a n = gval a m := by
  induction n with
  | zero =>
    have : m = 0 := by omega
    rw [this]
  | succ n ih =>
    by_cases q : m = n + 1
    · rw [q]
    · rw [gval_s, ih (by omega) (fun i h1 h2 => h i h1 (by omega)), h n (by omega) (by omega), Nat.zero_mul, Nat.add_zero]
theorem gval_mono {a : Nat → Nat} {m n : Nat} (hmn : m ≤ n) : gval a m ≤ gval a n := by
  induction n with
  | zero =>
    have : m = 0 := by omega
    rw [this]; exact Nat.le_refl _
  | succ n ih =>
    by_cases q : m = n + 1
    · rw [q]; exact Nat.le_refl _
    · rw [gval_s]
      have := ih (by omega)
      omega
theorem gval_zero {a : Nat → Nat} {n m k : Nat} (h : gval a n < gB ^ m) (h1 : m ≤ k) (h2 : k < n) : a k = 0 := by
  have e1 := gval_mono (a := a) (m := k + 1) (n := n) h2
  have e2 : gB ^ m ≤ gB ^ k := Nat.pow_le_pow_right gB_pos h1
  rw [gval_s] at e1
  rcases Nat.eq_zero_or_pos (a k) with q | q
  · exact q
  · have : 1 * gB ^ k ≤ a k * gB ^ k := Nat.mul_le_mul_right _ q
    omega
theorem gval_norm {a : Nat → Nat} {n : Nat} (h : ∀ i, i < n → a i < gB) (h0 : 0 < n) (h1 : gB ^ (n - 1) ≤ gval a n) : a (n - 1) ≠ 0 := by
  obtain ⟨k, rfl⟩ : ∃ k, n = k + 1 := ⟨n - 1, by omega⟩
  intro q
  rw [Nat.add_sub_cancel] at q h1
  rw [gval_s, q, Nat.zero_mul, Nat.add_zero] at h1
  have := gval_lt (a := a) (n := k) (fun i hi => h i (by omega))
  omega
theorem gval_ge {a : Nat → Nat} {n k : Nat} (h : a k ≠ 0) (hk : k < n) : gB ^ k ≤ gval a n := by
  have e1 := gval_mono (a := a) (m := k + 1) (n := n) hk
  rw [gval_s] at e1
  have : 1 * gB ^ k ≤ a k * gB ^ k := Nat.mul_le_mul_right _ (by omega)
  omega
/-- the limbs above the size are 0, all are below the base -/
def gOk (a : Nat → Nat) (n : Nat) : Prop := n ≤ 6 ∧ (∀ i, i < 6 → a i < gB) ∧ ∀ i, n ≤ i → i < 6 → a i = 0
/-- they stand for v, if v can stand there at all -/
def gRep (a : Nat → Nat) (n v : Nat) : Prop := gOk a n ∧ (v < gB ^ 6 → gval a 6 = v ∧ (0 < n → a (n - 1) ≠ 0))
theorem gRep_zero {a : Nat → Nat} {n v : Nat} (h : gRep a n v) (hv : v < gB ^ 6) : n = 0 ↔ v = 0 := by
  obtain ⟨⟨h1, h2, h3⟩, h4⟩ := h
  obtain ⟨h5, h6⟩ := h4 hv
  constructor
  · intro q
    have := gval_top (a := a) (m := 0) (n := 6) (by omega) (fun i _ hi => h3 i (by omega) hi)
    rw [← h5, this]; rfl
  · intro q
    rcases Nat.eq_zero_or_pos n with p | p
    · exact p
    · have e := gval_ge (n := 6) (h6 p) (by omega)
      have := gpow_pos (n - 1)
      omega
/-- set: the low limb, all others 0 -/
theorem gRep_set {a : Nat → Nat} {k : Nat} (hk : k < gB) (h0 : a 0 = k) (h : ∀ i, 0 < i → i < 6 → a i = 0) : gRep a (if k = 0 then 0 else 1) k := by
  have hz : ∀ i, i < 6 → a i < gB := fun i hi => by
    rcases Nat.eq_zero_or_pos i with q | q
    · rw [q, h0]; exact hk
    · rw [h i q hi]; exact gB_pos
  have hv : gval a 6 = k := by
    rw [gval_top (a := a) (m := 1) (n := 6) (by omega) (fun i h1 h2 => h i (by omega) h2), gval_s, h0]
    show 0 + k * 1 = k
    omega
  by_cases q : k = 0
  · rw [if_pos q]
    refine ⟨⟨by omega, hz, fun i _ hi => ?_⟩, fun _ => ⟨hv, fun p => absurd p (by omega)⟩⟩
    rcases Nat.eq_zero_or_pos i with p | p
    · rw [p, h0, q]
    · exact h i p hi
  · rw [if_neg q]
    refine ⟨⟨by omega, hz, fun i h1 hi => h i (by omega) hi⟩, fun _ => ⟨hv, fun _ => ?_⟩⟩
    rw [h0]; exact q
/-- add, i limbs done, with a carry -/
def gAddI (a o a' : Nat → Nat) (u i c : Nat) : Prop := i ≤ 6 ∧ c ≤ 1 ∧ (∀ k, k < 6 → a' k < gB) ∧ (∀ k, i ≤ k → a' k = a k) ∧ gval a' i + c * gB ^ i = gval a i + gval o i ∧ (u < i → gB ^ (i - 1) ≤ gval a i + gval o i)
theorem gAddI_0 {a o : Nat → Nat} {u : Nat} (h : ∀ k, k < 6 → a k < gB) : gAddI a o a u 0 0 :=
  ⟨by omega, by omega, h, fun _ _ => rfl, by simp [gval], fun q => absurd q (by omega)⟩
theorem gval_up {a : Nat → Nat} {i x : Nat} : gval (va_up a i x) i = gval a i := gval_congr (fun k hk => va_up_ne a x (by omega))
theorem gAddI_s {a o a' : Nat → Nat} {u i c c' x : Nat} (ho : ∀ k, k < 6 → o k < gB) (h : gAddI a o a' u i c) (hi : i < 6) (hu : i < u ∨ 0 < c) (hz : ∀ k, u ≤ k → k < 6 → a k = 0 ∧ o k = 0) (hc : c' = if gB ≤ a' i + o i + c then 1 else 0) (hx : x + c' * gB = a' i + o i + c) : gAddI a o (va_up a' i x) u (i + 1) c' := by
  obtain ⟨h1, h2, h3, h4, h5, h6⟩ := h
  have e1 := h3 i hi
  have e2 := ho i hi
  have e3 := h4 i (Nat.le_refl i)
  have hc1 : c' ≤ 1 ∧ x < gB := by
    by_cases q : gB ≤ a' i + o i + c
    · rw [if_pos q] at hc; subst hc; omega
    · rw [if_neg q] at hc; subst hc; omega
  refine ⟨by omega, hc1.1, fun k hk => ?_, fun k hk => ?_, ?_, fun hu' => ?_⟩
  · by_cases q : k = i
    · rw [q, va_up_self]; exact hc1.2
    · rw [va_up_ne _ _ q]; exact h3 k hk
  · rw [va_up_ne _ _ (by omega)]; exact h4 k (by omega)
  · rw [gval_s, gval_s, gval_s, gval_up, va_up_self, ← e3]
    have e4 : gB ^ (i + 1) = gB * gB ^ i := by rw [Nat.pow_succ, Nat.mul_comm]
    have e5 : (x + c' * gB) * gB ^ i = (a' i + o i + c) * gB ^ i := by rw [hx]
    rw [Nat.add_mul, Nat.add_mul, Nat.add_mul, Nat.mul_assoc] at e5
    rw [e4]
    omega
  · rw [Nat.add_sub_cancel, gval_s, gval_s]
    by_cases q : u < i + 1
    · have q1 : 0 < c := by omega
      have q2 : 1 * gB ^ i ≤ c * gB ^ i := Nat.mul_le_mul_right _ q1
      omega
    · omega
theorem gAdd_end {a o a' : Nat → Nat} {n m u i c v w : Nat} (ha : gRep a n v) (ho : gRep o m w) (hn : n ≤ u) (hm : m ≤ u) (hu : u = n ∨ u = m) (h : gAddI a o a' u i c) (hx : 6 ≤ i ∨ (u ≤ i ∧ c = 0)) : gRep a' i (v + w) := by
  obtain ⟨⟨a1, a2, a3⟩, a4⟩ := ha
  obtain ⟨⟨o1, o2, o3⟩, o4⟩ := ho
  obtain ⟨h1, h2, h3, h4, h5, h6⟩ := h
  have hz : ∀ k, i ≤ k → k < 6 → a' k = 0 := fun k q1 q2 => by rw [h4 k q1]; exact a3 k (by omega) q2
  refine ⟨⟨h1, h3, hz⟩, fun hv => ?_⟩
  obtain ⟨a5, a6⟩ := a4 (by omega)
  obtain ⟨o5, o6⟩ := o4 (by omega)
  have e1 := gval_top h1 (a := a') hz
  have e2 := gval_top h1 (a := a) (fun k q1 q2 => a3 k (by omega) q2)
  have e3 := gval_top h1 (a := o) (fun k q1 q2 => o3 k (by omega) q2)
  have hc : c = 0 := by
    rcases hx with q | q
    · have qi : i = 6 := by omega
      subst qi
      rcases Nat.eq_zero_or_pos c with p | p
      · exact p
      · have : 1 * gB ^ 6 ≤ c * gB ^ 6 := Nat.mul_le_mul_right _ p
        omega
    · exact q.2
  have hval : gval a' 6 = v + w := by
    rw [hc, Nat.zero_mul] at h5
    omega
  refine ⟨hval, fun p => gval_norm (fun k hk => h3 k (by omega)) p ?_⟩
  rw [← e1, hval]
  by_cases q : u < i
  · have := h6 q
    omega
  · have qi : i = u := by omega
    rcases hu with q2 | q2
    · have e := gval_ge (n := 6) (a6 (by omega)) (by omega)
      rw [show i - 1 = n - 1 by omega]
      omega
    · have e := gval_ge (n := 6) (o6 (by omega)) (by omega)
      rw [show i - 1 = m - 1 by omega]
      omega
