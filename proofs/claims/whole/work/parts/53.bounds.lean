/-! The sums over the bounds in closed form -/
theorem rng_s' (F : Nat → Nat) {lo hi : Nat} (h : lo ≤ hi) : rng F lo (hi + 1) = rng F lo hi + F hi := by
  unfold rng
  rw [show hi + 1 - lo = (hi - lo) + 1 by omega, sm_s, show lo + (hi - lo) = hi by omega]
theorem rng_e (F : Nat → Nat) {lo hi : Nat} (h : hi ≤ lo) : rng F lo hi = 0 := by
  unfold rng; rw [show hi - lo = 0 by omega]; rfl
theorem sm_rng (F : Nat → Nat) (lo hi : Nat) : ∀ n, sm (fun y => if lo ≤ y ∧ y < hi then F y else 0) n = rng F lo (min hi n) := by
  intro n
  induction n with
  | zero => exact (rng_e F (by omega)).symm
  | succ n ih =>
    rw [sm_s, ih]
    by_cases q : lo ≤ n ∧ n < hi
    · rw [if_pos q, show min hi (n + 1) = n + 1 by omega, show min hi n = n by omega, rng_s' F q.1]
    · rw [if_neg q, Nat.add_zero]
      by_cases q2 : n < hi
      · rw [rng_e F (by omega), rng_e F (by omega)]
      · rw [show min hi (n + 1) = min hi n by omega]
theorem sm_rng12 (F : Nat → Nat) {lo hi : Nat} (h : hi ≤ 12) : sm (fun y => if lo ≤ y ∧ y < hi then F y else 0) 12 = rng F lo hi := by
  rw [sm_rng, show min hi 12 = hi by omega]
section
variable {od : Nat → Nat} {im : Nat → Bool} {S : Nat → Nat → Nat} {hm n : Nat} {fb : Nat → Option Nat}
/-- the places from hm on are different dates -/
def oInj (od : Nat → Nat) (hm n : Nat) : Prop := ∀ i j, i < n → j < n → od (hm + i) = od (hm + j) → i = j
theorem mI_spec (hj : oInj od hm n) (y : Nat) (I : Nat → Nat) : ∀ j, j ≤ n → (∀ t, t < j → im (od (hm + t)) = true → (mI od im S y hm I j).1 (od (hm + t)) = I (od (hm + t)) + S (od (hm + t)) y) ∧ (∀ t, j ≤ t → t < n → (mI od im S y hm I j).1 (od (hm + t)) = I (od (hm + t))) ∧ (mI od im S y hm I j).2 = pr (fun t => if im (od (hm + t)) = true then I (od (hm + t)) + S (od (hm + t)) y else 1) j := by
  intro j
  induction j with
  | zero => intro _; exact ⟨fun t ht => by omega, fun t _ _ => rfl, rfl⟩
  | succ j ih =>
    intro hjn
    obtain ⟨h1, h2, h3⟩ := ih (by omega)
    cases q : im (od (hm + j)) with
    | false =>
      rw [mI_f q]
      refine ⟨fun t ht hi => ?_, fun t h4 h5 => h2 t (by omega) h5, ?_⟩
      · by_cases q2 : t = j
        · rw [q2, q] at hi; cases hi
        · exact h1 t (by omega) hi
      · rw [pr_s, if_neg (by rw [q]; simp), Nat.mul_one]; exact h3
    | true =>
      rw [mI_t q]
      refine ⟨fun t ht hi => ?_, fun t h4 h5 => ?_, ?_⟩
      · show va_up _ _ _ _ = _
        by_cases q2 : t = j
        · rw [q2, va_up_self, h2 j (Nat.le_refl _) (by omega)]
        · rw [va_up_ne _ _ (fun e => q2 (hj t j (by omega) (by omega) e))]; exact h1 t (by omega) hi
      · show va_up _ _ _ _ = _
        rw [va_up_ne _ _ (fun e => absurd (hj t j h5 (by omega) e) (by omega))]; exact h2 t (by omega) h5
      · show _ * _ = _
        rw [pr_s, if_pos q, h3, h2 j (Nat.le_refl _) (by omega)]
/-- what the other members count between two bounds -/
def qP (od : Nat → Nat) (im : Nat → Bool) (S : Nat → Nat → Nat) (hm n f l : Nat) : Nat := pr (fun t => if im (od (hm + t)) = true then rng (S (od (hm + t))) f (l + 1) else 1) n
theorem sBi_spec (hj : oInj od hm n) (h6 : ∀ t, t < n → od (hm + t) < 6) (f : Nat) (I P : Nat → Nat) (a : Nat) : ∀ t, (∀ j, j < n → im (od (hm + j)) = true → (sBi od im S hm n fb f (upto 6 Z0 I, P, a) t).1 (od (hm + j)) = rng (S (od (hm + j))) f (f + t)) ∧ (∀ y, (sBi od im S hm n fb f (upto 6 Z0 I, P, a) t).2.1 y = P y + sm (fun t => if (fb 1 = none ∨ fb 1 = some (f + t)) ∧ f ≤ y ∧ y ≤ f + t then qP od im S hm n f (f + t) else 0) t) ∧ (sBi od im S hm n fb f (upto 6 Z0 I, P, a) t).2.2 = a + sm (fun t => if fb 1 = none ∨ fb 1 = some (f + t) then qP od im S hm n f (f + t) else 0) t := by
  intro t
  induction t with
  | zero =>
    refine ⟨fun j h1 _ => ?_, fun y => rfl, rfl⟩
    show upto 6 Z0 I (od (hm + j)) = _
    rw [upto_lt _ _ (h6 j h1), rng_e _ (by omega)]; rfl
  | succ t ih =>
    obtain ⟨h1, h2, h3⟩ := ih
    obtain ⟨e1, e2, e3⟩ := mI_spec (im := im) (S := S) hj (f + t) (sBi od im S hm n fb f (upto 6 Z0 I, P, a) t).1 n (Nat.le_refl _)
    have e4 : (mI od im S (f + t) hm (sBi od im S hm n fb f (upto 6 Z0 I, P, a) t).1 n).2 = qP od im S hm n f (f + t) := by
      rw [e3]
      refine pr_congr (fun j hjn => ?_)
      by_cases q : im (od (hm + j)) = true
      · rw [if_pos q, if_pos q, h1 j hjn q, rng_s' _ (by omega)]
      · rw [if_neg q, if_neg q]
    have e5 : ∀ j, j < n → im (od (hm + j)) = true → (mI od im S (f + t) hm (sBi od im S hm n fb f (upto 6 Z0 I, P, a) t).1 n).1 (od (hm + j)) = rng (S (od (hm + j))) f (f + (t + 1)) := fun j hjn hi => by
      rw [e1 j hjn hi, h1 j hjn hi, ← Nat.add_assoc, rng_s' _ (by omega)]
    by_cases q : fb 1 = none ∨ fb 1 = some (f + t)
    · rw [sBi_t q, e4]
      refine ⟨e5, fun y => ?_, ?_⟩
      · show adP _ f (t + 1) _ y = _
        unfold adP
        by_cases q2 : f ≤ y ∧ y < f + (t + 1)
        · rw [if_pos q2, h2 y, sm_s, if_pos ⟨q, by omega, by omega⟩, Nat.add_assoc]
        · rw [if_neg q2, h2 y, sm_s, if_neg (fun q3 => q2 (by omega)), Nat.add_zero]
      · show _ + _ = _
        rw [h3, sm_s, if_pos q, Nat.add_assoc]
    · rw [sBi_f q]
      refine ⟨e5, fun y => ?_, ?_⟩
      · show (sBi od im S hm n fb f (upto 6 Z0 I, P, a) t).2.1 y = _
        rw [h2 y, sm_s, if_neg (fun q3 => q q3.1), Nat.add_zero]
      · show (sBi od im S hm n fb f (upto 6 Z0 I, P, a) t).2.2 = _
        rw [h3, sm_s, if_neg q, Nat.add_zero]
theorem sBo_spec (hj : oInj od hm n) (h6 : ∀ t, t < n → od (hm + t) < 6) (I P : Nat → Nat) (a : Nat) : ∀ f, (∀ y, (sBo od im S hm n fb (I, P, a) f).2.1 y = P y + sm (fun f => if fb 0 = none ∨ fb 0 = some f then sm (fun t => if (fb 1 = none ∨ fb 1 = some (f + t)) ∧ f ≤ y ∧ y ≤ f + t then qP od im S hm n f (f + t) else 0) (12 - f) else 0) f) ∧ (sBo od im S hm n fb (I, P, a) f).2.2 = a + sm (fun f => if fb 0 = none ∨ fb 0 = some f then sm (fun t => if fb 1 = none ∨ fb 1 = some (f + t) then qP od im S hm n f (f + t) else 0) (12 - f) else 0) f := by
  intro f
  induction f with
  | zero => exact ⟨fun y => rfl, rfl⟩
  | succ f ih =>
    obtain ⟨h1, h2⟩ := ih
    by_cases q : fb 0 = none ∨ fb 0 = some f
    · rw [sBo_t q]
      obtain ⟨-, g2, g3⟩ := sBi_spec (im := im) (S := S) (fb := fb) hj h6 f (sBo od im S hm n fb (I, P, a) f).1 (sBo od im S hm n fb (I, P, a) f).2.1 (sBo od im S hm n fb (I, P, a) f).2.2 (12 - f)
      refine ⟨fun y => ?_, ?_⟩
      · rw [g2 y, h1 y, sm_s, if_pos q, Nat.add_assoc]
      · rw [g3, h2, sm_s, if_pos q, Nat.add_assoc]
    · rw [sBo_f q]
      refine ⟨fun y => ?_, ?_⟩
      · rw [h1 y, sm_s, if_neg q, Nat.add_zero]
      · rw [h2, sm_s, if_neg q, Nat.add_zero]
end
theorem sm_app (F : Nat → Nat) (a : Nat) : ∀ b, sm F (a + b) = sm F a + sm (fun j => F (a + j)) b := by
  intro b
  induction b with
  | zero => rfl
  | succ b ih => rw [← Nat.add_assoc, sm_s, ih, sm_s, Nat.add_assoc]
theorem sm_blk (F : Nat → Nat) : ∀ m, sm F (12 * m) = sm (fun a => sm (fun b => F (12 * a + b)) 12) m := by
  intro m
  induction m with
  | zero => rfl
  | succ m ih => rw [show 12 * (m + 1) = 12 * m + 12 by omega, sm_app, ih]; rfl
theorem sm_144 (F : Nat → Nat) : sm F 144 = sm (fun a => sm (fun b => F (12 * a + b)) 12) 12 := sm_blk F 12
/-- the second bound counted from the first on -/
theorem sm_from (G : Nat → Nat) {f : Nat} (hf : f ≤ 12) : sm (fun b => if f ≤ b then G b else 0) 12 = sm (fun t => G (f + t)) (12 - f) := by
  have e : sm (fun b => if f ≤ b then G b else 0) (f + (12 - f)) = sm (fun b => if f ≤ b then G b else 0) f + sm (fun t => if f ≤ f + t then G (f + t) else 0) (12 - f) := sm_app _ f (12 - f)
  rw [show f + (12 - f) = 12 by omega] at e
  rw [e, sm_zero (fun i hi => if_neg (by omega)), Nat.zero_add]
  exact sm_congr (fun t _ => if_pos (by omega))
