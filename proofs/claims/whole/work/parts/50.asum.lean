/-! Sums over the years of the dates in a set; dates taken away one by one -/
def asum (A : Nat → Bool) (P : (Nat → Nat) → Nat) : Nat → (Nat → Nat) → Nat
  | 0, f => P f
  | n + 1, f => if A n = true then sm (fun y => asum A P n (va_up f n y)) 12 else asum A P n f
theorem asum_t {A : Nat → Bool} {P : (Nat → Nat) → Nat} {n : Nat} {f : Nat → Nat} (h : A n = true) : asum A P (n + 1) f = sm (fun y => asum A P n (va_up f n y)) 12 := if_pos h
theorem asum_f {A : Nat → Bool} {P : (Nat → Nat) → Nat} {n : Nat} {f : Nat → Nat} (h : A n = false) : asum A P (n + 1) f = asum A P n f := if_neg (by rw [h]; simp)
abbrev yOk (g : Nat → Nat) : Prop := ∀ d, g d < 12
theorem yOk_up {g : Nat → Nat} {d y : Nat} (h : yOk g) (hy : y < 12) : yOk (va_up g d y) := by
  intro x
  by_cases q : x = d
  · rw [q, va_up_self]; exact hy
  · rw [va_up_ne _ _ q]; exact h x
theorem asum_cg {A : Nat → Bool} {P Q : (Nat → Nat) → Nat} : ∀ (n : Nat) (f : Nat → Nat), yOk f → (∀ g, yOk g → (∀ d, n ≤ d → g d = f d) → (∀ d, A d = false → g d = f d) → P g = Q g) → asum A P n f = asum A Q n f := by
  intro n
  induction n with
  | zero => intro f hf h; exact h f hf (fun _ _ => rfl) (fun _ _ => rfl)
  | succ n ih =>
    intro f hf h
    cases q : A n with
    | true =>
      rw [asum_t q, asum_t q]
      refine sm_congr (fun y hy => ih _ (yOk_up hf hy) (fun g hg h1 h2 => h g hg (fun d hd => ?_) (fun d hd => ?_)))
      · rw [h1 d (by omega), va_up_ne _ _ (by omega)]
      · rw [h2 d hd, va_up_ne _ _ (fun e => by rw [e, q] at hd; cases hd)]
    | false =>
      rw [asum_f q, asum_f q]
      refine ih f hf (fun g hg h1 h2 => h g hg (fun d hd => h1 d (by omega)) h2)
theorem asum_congr {A : Nat → Bool} {P Q : (Nat → Nat) → Nat} {n : Nat} {f : Nat → Nat} (hf : yOk f) (h : ∀ g, yOk g → P g = Q g) : asum A P n f = asum A Q n f := asum_cg n f hf (fun g hg _ _ => h g hg)
theorem asum_cA {A B : Nat → Bool} {P : (Nat → Nat) → Nat} : ∀ (n : Nat) (f : Nat → Nat), (∀ d, d < n → A d = B d) → asum A P n f = asum B P n f := by
  intro n
  induction n with
  | zero => intro f _; rfl
  | succ n ih =>
    intro f h
    have h0 := h n (by omega)
    cases q : A n with
    | true => rw [asum_t q, asum_t (h0.symm.trans q)]; exact sm_congr (fun y _ => ih _ (fun d hd => h d (by omega)))
    | false => rw [asum_f q, asum_f (h0.symm.trans q)]; exact ih _ (fun d hd => h d (by omega))
theorem asum_mul {A : Nat → Bool} {P : (Nat → Nat) → Nat} (c : Nat) : ∀ (n : Nat) (f : Nat → Nat), asum A (fun g => c * P g) n f = c * asum A P n f := by
  intro n
  induction n with
  | zero => intro f; rfl
  | succ n ih =>
    intro f
    cases q : A n with
    | true => rw [asum_t q, asum_t q, ← sm_mul]; exact sm_congr (fun y _ => ih _)
    | false => rw [asum_f q, asum_f q]; exact ih f
theorem asum_sm {A : Nat → Bool} {P : Nat → (Nat → Nat) → Nat} (m : Nat) : ∀ (n : Nat) (f : Nat → Nat), asum A (fun g => sm (fun j => P j g) m) n f = sm (fun j => asum A (P j) n f) m := by
  intro n
  induction n with
  | zero => intro f; rfl
  | succ n ih =>
    intro f
    cases q : A n with
    | true =>
      rw [asum_t q, sm_congr (fun y _ => ih (va_up f n y)), sm_swap]
      exact sm_congr (fun j _ => (asum_t q).symm)
    | false => rw [asum_f q, ih f]; exact sm_congr (fun j _ => (asum_f q).symm)
theorem asum_in {A : Nat → Bool} {P : (Nat → Nat) → Nat} {d : Nat} : ∀ (n : Nat) (f : Nat → Nat), (n ≤ d ∨ A d = false) → asum A (fun g => sm (fun y => P (va_up g d y)) 12) n f = sm (fun y => asum A P n (va_up f d y)) 12 := by
  intro n
  induction n with
  | zero => intro f _; rfl
  | succ n ih =>
    intro f h
    have hn : n ≤ d ∨ A d = false := h.elim (fun q => Or.inl (by omega)) Or.inr
    cases q : A n with
    | true =>
      have hne : n ≠ d := fun e => h.elim (fun q2 => by omega) (fun q2 => by rw [e, q2] at q; cases q)
      rw [asum_t q, sm_congr (fun y _ => ih (va_up f n y) hn), sm_swap]
      exact sm_congr (fun y _ => by rw [asum_t q]; exact sm_congr (fun z _ => by rw [va_up_comm hne]))
    | false => rw [asum_f q, ih f hn]; exact sm_congr (fun y _ => (asum_f q).symm)
theorem asum_take {A : Nat → Bool} {P : (Nat → Nat) → Nat} {d : Nat} (hA : A d = true) : ∀ (n : Nat) (f : Nat → Nat), d < n → asum A P n f = asum (va_up A d false) (fun g => sm (fun y => P (va_up g d y)) 12) n f := by
  intro n
  induction n with
  | zero => intro f h; omega
  | succ n ih =>
    intro f h
    by_cases q : n = d
    · subst q
      rw [asum_t hA, asum_f (va_up_self _ _ _), asum_in n f (Or.inl (Nat.le_refl _))]
      exact sm_congr (fun y _ => asum_cA n _ (fun d hd => (va_up_ne _ _ (by omega)).symm))
    · have hn : va_up A d false n = A n := va_up_ne _ _ q
      cases q2 : A n with
      | true => rw [asum_t q2, asum_t (hn.trans q2)]; exact sm_congr (fun y _ => ih _ (by omega))
      | false => rw [asum_f q2, asum_f (hn.trans q2)]; exact ih _ (by omega)
/-- the sums over a part of the dates first -/
theorem asum_split {A O : Nat → Bool} {P : (Nat → Nat) → Nat} : ∀ (n : Nat) (f : Nat → Nat), asum A P n f = asum (fun d => A d && !O d) (fun g => asum (fun d => A d && O d) P n g) n f := by
  intro n
  induction n with
  | zero => intro f; rfl
  | succ n ih =>
    intro f
    cases q : A n with
    | true =>
      cases q2 : O n with
      | true =>
        rw [asum_t q, asum_f (by simp [q2]), sm_congr (fun y _ => ih (va_up f n y)), ← asum_in n f (Or.inl (Nat.le_refl _))]
        congr 1
        funext g
        exact (asum_t (by simp [q, q2])).symm
      | false =>
        rw [asum_t q, asum_t (by simp [q, q2]), sm_congr (fun y _ => ih (va_up f n y))]
        refine sm_congr (fun y _ => ?_)
        congr 1
        funext g
        exact (asum_f (by simp [q2])).symm
    | false =>
      rw [asum_f q, asum_f (by simp [q]), ih f]
      congr 1
      funext g
      exact (asum_f (by simp [q])).symm
theorem asum_prod {A : Nat → Bool} {F : Nat → Nat → Nat} : ∀ (n : Nat) (f : Nat → Nat), yOk f → asum A (fun g => pr (fun d => if A d = true then F d (g d) else 1) n) n f = pr (fun d => if A d = true then sm (F d) 12 else 1) n := by
  intro n
  induction n with
  | zero => intro f _; rfl
  | succ n ih =>
    intro f hf
    cases q : A n with
    | true =>
      rw [asum_t q, pr_s, if_pos q, ← sm_mul]
      refine sm_congr (fun y hy => ?_)
      rw [asum_cg (Q := fun g => F n y * pr (fun d => if A d = true then F d (g d) else 1) n) n _ (yOk_up hf hy) (fun g hg h1 _ => by
        rw [pr_s, if_pos q, h1 n (Nat.le_refl _), va_up_self, Nat.mul_comm]), asum_mul, ih _ (yOk_up hf hy), Nat.mul_comm]
    | false =>
      rw [asum_f q, pr_s, if_neg (by rw [q]; simp), Nat.mul_one, ← ih f hf]
      exact asum_congr hf (fun g _ => by rw [pr_s, if_neg (by rw [q]; simp), Nat.mul_one])
/-- the product of what the dates count, and of what the rows say -/
def pS (A : Nat → Bool) (S : Nat → Nat → Nat) (g : Nat → Nat) (n : Nat) : Nat := pr (fun d => if A d = true then S d (g d) else 1) n
def rk (u v le mo : Nat → Nat) (g : Nat → Nat) (i : Nat) : Nat := if g (u i) + le i ≤ g (v i) ∧ g (v i) ≤ g (u i) + mo i then 1 else 0
def pR (u v le mo : Nat → Nat) (R : Nat → Bool) (g : Nat → Nat) (nt : Nat) : Nat := pr (fun i => if R i = true then rk u v le mo g i else 1) nt
def EE (u v le mo : Nat → Nat) (n nt : Nat) (A : Nat → Bool) (S : Nat → Nat → Nat) (R : Nat → Bool) (φ : (Nat → Nat) → Nat) (f : Nat → Nat) : Nat := asum A (fun g => pS A S g n * pR u v le mo R g nt * φ g) n f
theorem pS_out {A : Nat → Bool} {S : Nat → Nat → Nat} {g : Nat → Nat} {n d : Nat} (hd : d < n) (hA : A d = true) : pS A S g n = pS (va_up A d false) S g n * S d (g d) := by
  unfold pS
  rw [pr_out (r := d) (G := fun x => if va_up A d false x = true then S x (g x) else 1) hd (fun i hi q => by rw [va_up_ne _ _ q]) (by rw [va_up_self]; rfl), if_pos hA]
theorem pS_up {A : Nat → Bool} {S : Nat → Nat → Nat} {g : Nat → Nat} {n d y : Nat} (hA : A d = false) : pS A S (va_up g d y) n = pS A S g n := by
  refine pr_congr (fun i hi => ?_)
  by_cases q : i = d
  · rw [q, if_neg (by rw [hA]; simp), if_neg (by rw [hA]; simp)]
  · rw [va_up_ne _ _ q]
theorem pR_out {u v le mo : Nat → Nat} {R : Nat → Bool} {g : Nat → Nat} {nt k : Nat} (hk : k < nt) (hR : R k = true) : pR u v le mo R g nt = pR u v le mo (va_up R k false) g nt * rk u v le mo g k := by
  unfold pR
  rw [pr_out (r := k) (G := fun x => if va_up R k false x = true then rk u v le mo g x else 1) hk (fun i hi q => by rw [va_up_ne _ _ q]) (by rw [va_up_self]; rfl), if_pos hR]
theorem pR_up {u v le mo : Nat → Nat} {R : Nat → Bool} {g : Nat → Nat} {nt d y : Nat} (h : ∀ i, i < nt → R i = true → u i ≠ d ∧ v i ≠ d) : pR u v le mo R (va_up g d y) nt = pR u v le mo R g nt := by
  refine pr_congr (fun i hi => ?_)
  by_cases q : R i = true
  · rw [if_pos q, if_pos q]
    unfold rk
    rw [va_up_ne _ _ (h i hi q).1, va_up_ne _ _ (h i hi q).2]
  · rw [if_neg q, if_neg q]
/-- what a date hands over a row -/
def mS (u le mo : Nat → Nat) (S : Nat → Nat → Nat) (k d z : Nat) : Nat := sm (fun y => if (u k = d ∧ y + le k ≤ z ∧ z ≤ y + mo k) ∨ (u k ≠ d ∧ z + le k ≤ y ∧ y ≤ z + mo k) then S d y else 0) 12
theorem EE_take {u v le mo : Nat → Nat} {n nt : Nat} {A R : Nat → Bool} {S S1 : Nat → Nat → Nat} {φ : (Nat → Nat) → Nat} {f : Nat → Nat} {d e k : Nat} (hf : yOk f) (hd : d < n) (hA : A d = true) (he : e < n) (hAe : A e = true) (hde : d ≠ e) (hk : k < nt) (hR : R k = true) (hends : (u k = d ∧ v k = e) ∨ (u k = e ∧ v k = d)) (hfree : ∀ i, i < nt → R i = true → i ≠ k → u i ≠ d ∧ v i ≠ d) (hφ : ∀ g y, yOk g → y < 12 → φ (va_up g d y) = φ g) (hS1 : ∀ z, z < 12 → S1 e z = S e z * mS u le mo S k d z) (hS2 : ∀ x, x < n → A x = true → x ≠ d → x ≠ e → ∀ z, z < 12 → S1 x z = S x z) : EE u v le mo n nt A S R φ f = EE u v le mo n nt (va_up A d false) S1 (va_up R k false) φ f := by
  unfold EE
  rw [asum_take hA n f hd]
  refine asum_congr hf (fun g hg => ?_)
  have hAe1 : va_up A d false e = true := by rw [va_up_ne _ _ (fun q => hde q.symm)]; exact hAe
  have h1 : pS (va_up A d false) S1 g n = pS (va_up (va_up A d false) e false) S g n * (S e (g e) * mS u le mo S k d (g e)) := by
    rw [pS_out he hAe1, hS1 _ (hg e)]
    congr 1
    refine pr_congr (fun i hi => ?_)
    by_cases q : va_up (va_up A d false) e false i = true
    · rw [if_pos q, if_pos q]
      have qe : i ≠ e := fun q2 => by rw [q2, va_up_self] at q; cases q
      rw [va_up_ne _ _ qe] at q
      have qd : i ≠ d := fun q2 => by rw [q2, va_up_self] at q; cases q
      rw [va_up_ne _ _ qd] at q
      exact hS2 i hi q qd qe _ (hg i)
    · rw [if_neg q, if_neg q]
  have h2 : pS (va_up A d false) S g n = pS (va_up (va_up A d false) e false) S g n * S e (g e) := pS_out he hAe1
  have h3 : ∀ y, y < 12 → pS A S (va_up g d y) n * pR u v le mo R (va_up g d y) nt * φ (va_up g d y) = (pS (va_up A d false) S g n * pR u v le mo (va_up R k false) g nt * φ g) * (if (u k = d ∧ y + le k ≤ g e ∧ g e ≤ y + mo k) ∨ (u k ≠ d ∧ g e + le k ≤ y ∧ y ≤ g e + mo k) then S d y else 0) := by
    intro y hy
    rw [pS_out hd hA, pS_up (va_up_self _ _ _), va_up_self, hφ g y hg hy, pR_out hk hR, pR_up (R := va_up R k false) (fun i hi q => by
      have q1 : i ≠ k := fun q2 => by rw [q2, va_up_self] at q; cases q
      rw [va_up_ne _ _ q1] at q
      exact hfree i hi q q1)]
    have h4 : S d y * rk u v le mo (va_up g d y) k = (if (u k = d ∧ y + le k ≤ g e ∧ g e ≤ y + mo k) ∨ (u k ≠ d ∧ g e + le k ≤ y ∧ y ≤ g e + mo k) then S d y else 0) := by
      unfold rk
      rcases hends with ⟨e1, e2⟩ | ⟨e1, e2⟩
      · rw [e1, e2, va_up_self, va_up_ne _ _ (fun q => hde q.symm)]
        by_cases q : y + le k ≤ g e ∧ g e ≤ y + mo k
        · rw [if_pos q, if_pos (Or.inl ⟨rfl, q⟩), Nat.mul_one]
        · rw [if_neg q, if_neg (fun q2 => q2.elim (fun q3 => q q3.2) (fun q3 => q3.1 rfl)), Nat.mul_zero]
      · rw [e1, e2, va_up_self, va_up_ne _ _ (fun q => hde q.symm)]
        by_cases q : g e + le k ≤ y ∧ y ≤ g e + mo k
        · rw [if_pos q, if_pos (Or.inr ⟨fun q2 => hde q2.symm, q⟩), Nat.mul_one]
        · rw [if_neg q, if_neg (fun q2 => q2.elim (fun q3 => hde q3.1.symm) (fun q3 => q q3.2)), Nat.mul_zero]
    rw [← h4]
    ac_rfl
  rw [sm_congr h3, sm_mul, h1, h2]
  show _ * mS u le mo S k d (g e) = _
  ac_rfl
theorem EE_drop {u v le mo : Nat → Nat} {n nt : Nat} {A R : Nat → Bool} {S : Nat → Nat → Nat} {φ : (Nat → Nat) → Nat} {f : Nat → Nat} {d : Nat} (hf : yOk f) (hd : d < n) (hA : A d = true) (hfree : ∀ i, i < nt → R i = true → u i ≠ d ∧ v i ≠ d) (hφ : ∀ g y, yOk g → y < 12 → φ (va_up g d y) = φ g) : EE u v le mo n nt A S R φ f = EE u v le mo n nt (va_up A d false) S R φ f * sm (S d) 12 := by
  unfold EE
  rw [asum_take hA n f hd, Nat.mul_comm, ← asum_mul]
  refine asum_congr hf (fun g hg => ?_)
  have h3 : ∀ y, y < 12 → pS A S (va_up g d y) n * pR u v le mo R (va_up g d y) nt * φ (va_up g d y) = (pS (va_up A d false) S g n * pR u v le mo R g nt * φ g) * S d y := by
    intro y hy
    rw [pS_out hd hA, pS_up (va_up_self _ _ _), va_up_self, hφ g y hg hy, pR_up hfree]
    ac_rfl
  rw [sm_congr h3, sm_mul]
  ac_rfl
