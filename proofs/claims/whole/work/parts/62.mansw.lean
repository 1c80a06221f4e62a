/-! The reference's answers by their numbers -/
theorem b4095 {z : Nat} : (4095 : Nat).testBit z = true ↔ z < 12 := bits_lt (n := 12)
theorem lyA {mwt mab mbe : Nat → Nat} {e z : Nat} (hz : z < 12) : lyF mwt mab mbe (fun _ => 4095) (12 * e + z) = cnt (mw2 mwt) mab mbe e z := by
  rw [lyF_at hz, if_pos (b4095.mpr hz)]
theorem lyAy {mwt mab mbe : Nat → Nat} {d y e z : Nat} (hz : z < 12) : lyF mwt mab mbe (va_up (fun _ => 4095) d (2 ^ y)) (12 * e + z) = fixW (cnt (mw2 mwt) mab mbe) d y e z := by
  rw [lyF_at hz]
  unfold fixW
  by_cases q : e = d
  · subst q
    rw [va_up_self, Nat.testBit_two_pow]
    by_cases q2 : y = z
    · rw [if_pos (decide_eq_true q2), if_neg (fun q3 => q3.2 q2.symm)]
    · rw [if_neg (by simp [q2]), if_pos ⟨rfl, fun q3 => q2 q3.symm⟩]
  · rw [va_up_ne _ _ q, if_pos (b4095.mpr hz), if_neg (fun q3 => q q3.1)]
section
variable {on1 ot2 lea mos mwt mab mbe : Nat → Nat} {tld dts cn fs ls : Nat}
theorem mSum_congr {yrs yr2 : Nat → Nat} (h : ∀ d, d < dts → yrs d = yr2 d) : mSum on1 ot2 lea mos mwt mab mbe tld dts cn fs ls yrs = mSum on1 ot2 lea mos mwt mab mbe tld dts cn fs ls yr2 := by
  refine WS_congr (fun d y hd hy => ?_) (fun _ _ => rfl) (fun _ _ => rfl) (fun _ _ => rfl) (fun _ _ => rfl)
  rw [lyF_at hy, lyF_at hy, h d hd]
theorem mSum_o (hd6 : dts ≤ 6) (yrs : Nat → Nat) : mSum on1 ot2 lea mos mwt mab mbe tld dts cn fs ls (upto 6 (fun _ => 4095) yrs) = mSum on1 ot2 lea mos mwt mab mbe tld dts cn fs ls (fun _ => 4095) := mSum_congr (fun d hd => upto_lt _ _ (by omega))
theorem mSum_oy (hd6 : dts ≤ 6) (yrs : Nat → Nat) (d v : Nat) : mSum on1 ot2 lea mos mwt mab mbe tld dts cn fs ls (va_up (upto 6 (fun _ => 4095) yrs) d v) = mSum on1 ot2 lea mos mwt mab mbe tld dts cn fs ls (va_up (fun _ => 4095) d v) := mSum_congr (fun x hx => by
  by_cases q : x = d
  · rw [q, va_up_self, va_up_self]
  · rw [va_up_ne _ _ q, va_up_ne _ _ q, upto_lt _ _ (by omega)])
theorem mSum_oy2 (hd6 : dts ≤ 6) (yrs : Nat → Nat) (d v e w : Nat) : mSum on1 ot2 lea mos mwt mab mbe tld dts cn fs ls (va_up (va_up (upto 6 (fun _ => 4095) yrs) d v) e w) = mSum on1 ot2 lea mos mwt mab mbe tld dts cn fs ls (va_up (va_up (fun _ => 4095) d v) e w) := mSum_congr (fun x hx => by
  by_cases q : x = e
  · rw [q, va_up_self, va_up_self]
  · rw [va_up_ne _ _ q, va_up_ne _ _ q]
    by_cases q2 : x = d
    · rw [q2, va_up_self, va_up_self]
    · rw [va_up_ne _ _ q2, va_up_ne _ _ q2, upto_lt _ _ (by omega)])
/-- the sum, and the sum with a year of a date -/
theorem mSum_A : mSum on1 ot2 lea mos mwt mab mbe tld dts cn fs ls (fun _ => 4095) = mWS on1 ot2 lea mos tld dts cn fs ls (cnt (mw2 mwt) mab mbe) := WS_congr (fun d y _ hy => lyA hy) (fun _ _ => rfl) (fun _ _ => rfl) (fun _ _ => rfl) (fun _ _ => rfl)
theorem mSum_Ay {d y : Nat} : mSum on1 ot2 lea mos mwt mab mbe tld dts cn fs ls (va_up (fun _ => 4095) d (2 ^ y)) = mWS on1 ot2 lea mos tld dts cn fs ls (fixW (cnt (mw2 mwt) mab mbe) d y) := WS_congr (fun e z _ hz => lyAy hz) (fun _ _ => rfl) (fun _ _ => rfl) (fun _ _ => rfl) (fun _ _ => rfl)
theorem mSum_years {d : Nat} (hd : d < dts) : sm (fun y => mSum on1 ot2 lea mos mwt mab mbe tld dts cn fs ls (va_up (fun _ => 4095) d (2 ^ y))) 12 = mSum on1 ot2 lea mos mwt mab mbe tld dts cn fs ls (fun _ => 4095) := by
  rw [mSum_A, sm_congr (fun y _ => mSum_Ay)]
  exact WS_years hd
end
/-- the least or greatest year that fits, after n tries -/
def spR (A : Nat → Nat) (w : Nat) : Nat → Option Nat
  | 0 => none
  | n + 1 => match spR A w n with
    | some y => some y
    | none => if A (if w = 0 then n else 11 - n) = 0 then none else some (if w = 0 then n else 11 - n)
theorem spR_s {A : Nat → Nat} {w n y : Nat} (h : spR A w n = some y) : spR A w (n + 1) = some y := by
  show (match spR A w n with | some y => some y | none => if A (if w = 0 then n else 11 - n) = 0 then none else some (if w = 0 then n else 11 - n)) = _
  rw [h]
theorem spR_n {A : Nat → Nat} {w n : Nat} (h : spR A w n = none) : spR A w (n + 1) = if A (if w = 0 then n else 11 - n) = 0 then none else some (if w = 0 then n else 11 - n) := by
  show (match spR A w n with | some y => some y | none => if A (if w = 0 then n else 11 - n) = 0 then none else some (if w = 0 then n else 11 - n)) = _
  rw [h]
theorem spR_st {A : Nat → Nat} {w n m y : Nat} (h : spR A w n = some y) (hm : n ≤ m) : spR A w m = some y := by
  induction m with
  | zero => rw [show n = 0 by omega] at h; exact h
  | succ m ih =>
    by_cases q : n = m + 1
    · rw [← q]; exact h
    · exact spR_s (ih (by omega))
/-- what stays counted, after n tries -/
def ftR (Z : Nat → Nat) (t : Nat) : Nat → Nat
  | 0 => 2 ^ t - 1
  | n + 1 => if Z (clb (ftR Z t n) (2 ^ n)) = 0 then clb (ftR Z t n) (2 ^ n) else ftR Z t n
theorem ftR_z {Z : Nat → Nat} {t n : Nat} (h : Z (clb (ftR Z t n) (2 ^ n)) = 0) : ftR Z t (n + 1) = clb (ftR Z t n) (2 ^ n) := if_pos h
theorem ftR_n {Z : Nat → Nat} {t n : Nat} (h : Z (clb (ftR Z t n) (2 ^ n)) ≠ 0) : ftR Z t (n + 1) = ftR Z t n := if_neg h
theorem ftR_le {Z : Nat → Nat} {t : Nat} : ∀ n, ftR Z t n ≤ 2 ^ t - 1 := by
  intro n
  induction n with
  | zero => exact Nat.le_refl _
  | succ n ih =>
    by_cases q : Z (clb (ftR Z t n) (2 ^ n)) = 0
    · rw [ftR_z q]; exact Nat.le_trans (clb_le _ _) ih
    · rw [ftR_n q]; exact ih
/-- the k-th of those in p -/
def kthP (p : Nat → Bool) (n k : Nat) (z : Option Nat) : Prop := (∃ i, z = some i ∧ i < n ∧ p i = true ∧ k = sm (fun j => (p j).toNat) i) ∨ (z = none ∧ sm (fun j => (p j).toNat) n ≤ k)
theorem kth_lt {p : Nat → Bool} {i j : Nat} (h : i < j) (hp : p i = true) : sm (fun j => (p j).toNat) i < sm (fun j => (p j).toNat) j := by
  induction j with
  | zero => omega
  | succ j ih =>
    rw [sm_s]
    by_cases q : i = j
    · subst q; rw [hp]; exact Nat.lt_succ_self _
    · have := ih (by omega); omega
theorem kth_un {p : Nat → Bool} {n k : Nat} {z z2 : Option Nat} (h : kthP p n k z) (h2 : kthP p n k z2) : z = z2 := by
  rcases h with ⟨i, a1, a2, a3, a4⟩ | ⟨a1, a2⟩ <;> rcases h2 with ⟨j, b1, b2, b3, b4⟩ | ⟨b1, b2⟩
  · rcases Nat.lt_trichotomy i j with q | q | q
    · have := kth_lt q a3; omega
    · rw [a1, b1, q]
    · have := kth_lt q b3; omega
  · have := kth_lt a2 a3; omega
  · have := kth_lt b2 b3; omega
  · rw [a1, b1]
/-- the shortest stretch, the first of equal ones; G f n: the n + 1 years from f on reach it -/
def nrwP (G : Nat → Nat → Prop) (z : Option Nat) : Prop := (∃ f n, z = some (100 * f + f + n) ∧ f + n < 12 ∧ G f n ∧ (∀ m e, m < n → e + m < 12 → ¬ G e m) ∧ ∀ e, e < f → ¬ G e n) ∨ (z = none ∧ ∀ e m, e + m < 12 → ¬ G e m)
theorem nrw_un {G : Nat → Nat → Prop} {z z2 : Option Nat} (h : nrwP G z) (h2 : nrwP G z2) : z = z2 := by
  rcases h with ⟨f, n, a1, a2, a3, a4, a5⟩ | ⟨a1, a2⟩ <;> rcases h2 with ⟨f2, n2, b1, b2, b3, b4, b5⟩ | ⟨b1, b2⟩
  · have hn : n = n2 := by
      rcases Nat.lt_trichotomy n n2 with q | q | q
      · exact absurd a3 (b4 n f q a2)
      · exact q
      · exact absurd b3 (a4 n2 f2 q b2)
    subst hn
    have hf : f = f2 := by
      rcases Nat.lt_trichotomy f f2 with q | q | q
      · exact absurd a3 (b5 f q)
      · exact q
      · exact absurd b3 (a5 f2 q)
    subst hf
    rw [a1, b1]
  · exact absurd a3 (b2 f n a2)
  · exact absurd b3 (a2 f2 n2 b2)
  · rw [a1, b1]
