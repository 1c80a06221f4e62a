/-! The phase -/
theorem asum_none {A : Nat → Bool} {P : (Nat → Nat) → Nat} : ∀ (n : Nat) (f : Nat → Nat), (∀ d, d < n → A d = false) → asum A P n f = P f := by
  intro n
  induction n with
  | zero => intro f _; rfl
  | succ n ih => intro f h; rw [asum_f (h n (by omega))]; exact ih f (fun d hd => h d (by omega))
theorem pairs (o0 o1 : Nat → Bool) (G : Nat → Nat → Nat) : sm (fun p => if cB o0 o1 p then G (p / 12) (p % 12) else 0) 144 = sm (fun f => if o0 f = true then sm (fun t => if o1 (f + t) = true then G f (f + t) else 0) (12 - f) else 0) 12 := by
  rw [sm_144]
  refine sm_congr (fun a ha => ?_)
  have e1 : ∀ b, b < 12 → (if cB o0 o1 (12 * a + b) then G ((12 * a + b) / 12) ((12 * a + b) % 12) else 0) = (if a ≤ b then (if o0 a = true ∧ o1 b = true then G a b else 0) else 0) := fun b hb => by
    have hc : cB o0 o1 (12 * a + b) ↔ (a ≤ b ∧ o0 a = true ∧ o1 b = true) := by
      unfold cB
      rw [show (12 * a + b) / 12 = a by omega, show (12 * a + b) % 12 = b by omega]
    by_cases q : a ≤ b
    · rw [if_pos q]
      by_cases q2 : o0 a = true ∧ o1 b = true
      · rw [if_pos (hc.mpr ⟨q, q2⟩), if_pos q2, show (12 * a + b) / 12 = a by omega, show (12 * a + b) % 12 = b by omega]
      · rw [if_neg (fun q3 => q2 (hc.mp q3).2), if_neg q2]
    · rw [if_neg q, if_neg (fun q3 => q (hc.mp q3).1)]
  rw [sm_congr e1, sm_from _ (by omega)]
  by_cases q : o0 a = true
  · rw [if_pos q]
    refine sm_congr (fun t _ => ?_)
    by_cases q2 : o1 (a + t) = true
    · rw [if_pos ⟨q, q2⟩, if_pos q2]
    · rw [if_neg (fun q3 => q2 q3.2), if_neg q2]
  · rw [if_neg q]
    exact sm_zero (fun t _ => if_neg (fun q3 => q q3.1))
theorem anyU_iff {od : Nat → Nat} {im : Nat → Bool} : ∀ n, anyU od im n = true ↔ ∃ j, j < n ∧ im (od j) = true := by
  intro n
  induction n with
  | zero => exact ⟨fun h => (by cases h), fun ⟨j, h, _⟩ => (by omega)⟩
  | succ n ih =>
    cases q : im (od n) with
    | true => rw [anyU_t q]; exact ⟨fun _ => ⟨n, by omega, q⟩, fun _ => rfl⟩
    | false =>
      rw [anyU_f q, ih]
      constructor
      · rintro ⟨j, h1, h2⟩; exact ⟨j, by omega, h2⟩
      · rintro ⟨j, h1, h2⟩
        have : j ≠ n := fun e => by rw [e, q] at h2; cases h2
        exact ⟨j, by omega, h2⟩
theorem mhU_spec {od : Nat → Nat} {im : Nat → Bool} {hm : Nat} : ∀ n, (mhU od im hm n = none → ∀ t, t < n → t < hm → im (od t) = false) ∧ (∀ d, mhU od im hm n = some d → ∃ t, t < n ∧ t < hm ∧ im (od t) = true ∧ d = od t) := by
  intro n
  induction n with
  | zero => exact ⟨fun _ t h => (by omega), fun d h => (by cases h)⟩
  | succ n ih =>
    obtain ⟨h1, h2⟩ := ih
    cases q : im (od n) with
    | false =>
      rw [mhU_f q]
      refine ⟨fun h t ht hm1 => ?_, fun d h => ?_⟩
      · by_cases q2 : t = n
        · rw [q2]; exact q
        · exact h1 h t (by omega) hm1
      · obtain ⟨t, a, b⟩ := h2 d h
        exact ⟨t, by omega, b⟩
    | true =>
      by_cases q2 : n < hm
      · rw [mhU_h q q2]
        exact ⟨fun h => (by cases h), fun d h => ⟨n, by omega, q2, q, (Option.some.inj h).symm⟩⟩
      · rw [mhU_o q (by omega)]
        refine ⟨fun h t ht hm1 => h1 h t (by omega) hm1, fun d h => ?_⟩
        obtain ⟨t, a, b⟩ := h2 d h
        exact ⟨t, by omega, b⟩
theorem pr_pos {od : Nat → Nat} {hm N : Nat} (F : Nat → Nat) : ∀ (n : Nat) (G : Nat → Nat), oInj od hm n → (∀ t, t < n → od (hm + t) < N) → (∀ d, d < N → (∃ t, t < n ∧ od (hm + t) = d) → G d = F d) → (∀ d, d < N → ¬ (∃ t, t < n ∧ od (hm + t) = d) → G d = 1) → pr (fun t => F (od (hm + t))) n = pr G N := by
  intro n
  induction n with
  | zero => intro G _ _ _ h2; exact (pr_ones (fun i hi => h2 i hi (fun ⟨t, h, _⟩ => by omega))).symm
  | succ n ih =>
    intro G hi hl h1 h2
    have e2 : ¬ ∃ t, t < n ∧ od (hm + t) = od (hm + n) := by
      rintro ⟨t, h1, h2⟩
      have := hi t n (by omega) (by omega) h2
      omega
    rw [pr_s, ih (va_up G (od (hm + n)) 1) (fun i j h1 h2 => hi i j (by omega) (by omega)) (fun t ht => hl t (by omega)) (fun d hd hex => ?_) (fun d hd hno => ?_), pr_out (F := G) (G := va_up G (od (hm + n)) 1) (r := od (hm + n)) (hl n (by omega)) (fun i _ hne => (va_up_ne _ _ hne).symm) (va_up_self _ _ _), h1 _ (hl n (by omega)) ⟨n, by omega, rfl⟩]
    · obtain ⟨t, t1, t2⟩ := hex
      rw [va_up_ne _ _ (fun e => e2 ⟨t, t1, t2.trans e⟩)]
      exact h1 d hd ⟨t, by omega, t2⟩
    · by_cases q : d = od (hm + n)
      · rw [q, va_up_self]
      · rw [va_up_ne _ _ q]
        refine h2 d hd (fun ⟨t, t1, t2⟩ => ?_)
        by_cases q2 : t = n
        · rw [q2] at t2; exact q t2.symm
        · exact hno ⟨t, by omega, t2⟩
def oB (fb : Nat → Option Nat) (w y : Nat) : Bool := decide (fb w = none ∨ fb w = some y)
theorem oB_iff {fb : Nat → Option Nat} {w y : Nat} : oB fb w y = true ↔ (fb w = none ∨ fb w = some y) := by unfold oB; simp
section
variable {fr le mo : Nat → Nat} {tt : Nat → Option Nat} {nf : Nat → Bool} {nt N x hm : Nat} {k : KQ}
theorem pR_ag {u v le mo : Nat → Nat} {R : Nat → Bool} {g g1 : Nat → Nat} {nt : Nat} (h : ∀ i, i < nt → R i = true → g1 (u i) = g (u i) ∧ g1 (v i) = g (v i)) : pR u v le mo R g1 nt = pR u v le mo R g nt := by
  refine pr_congr (fun i hi => ?_)
  by_cases q : R i = true
  · rw [if_pos q, if_pos q]; unfold rk; rw [(h i hi q).1, (h i hi q).2]
  · rw [if_neg q, if_neg q]
theorem pS_ag {A : Nat → Bool} {S : Nat → Nat → Nat} {g g1 : Nat → Nat} {n : Nat} (h : ∀ d, d < n → A d = true → g1 d = g d) : pS A S g1 n = pS A S g n := by
  refine pr_congr (fun i hi => ?_)
  by_cases q : A i = true
  · rw [if_pos q, if_pos q, h i hi q]
  · rw [if_neg q, if_neg q]
/-- the members of the other trees are summed over -/
theorem ph_in (hf : ∀ d, d < N → True) {A O im o0 o1 : Nat → Bool} {S : Nat → Nat → Nat} (hAO : ∀ d, d < N → ((A d && O d) = true ↔ (im d = true ∧ O d = true))) (hany : anyM im N = true) {g : Nat → Nat} (hg : yOk g) : asum (fun d => A d && O d) (fun g1 => pS (fun d => A d && O d) S g1 N * phi im o0 o1 N g1) N g = sm (fun p => if cB o0 o1 p then pr (fun d => if (im d && !O d) = true then inB g p d else 1) N * pr (fun d => if (A d && O d) = true then rng (S d) (p / 12) (p % 12 + 1) else 1) N else 0) 144 := by
  have e1 : ∀ g1, yOk g1 → (∀ d, (A d && O d) = false → g1 d = g d) → pS (fun d => A d && O d) S g1 N * phi im o0 o1 N g1 = sm (fun p => if cB o0 o1 p then pr (fun d => if (im d && !O d) = true then inB g p d else 1) N * pr (fun d => if (A d && O d) = true then S d (g1 d) * inB g1 p d else 1) N else 0) 144 := by
    intro g1 hg1 hag
    unfold phi
    rw [if_pos hany, ← sm_mul]
    refine sm_congr (fun p _ => ?_)
    by_cases q : cB o0 o1 p
    · rw [if_pos q, if_pos q]
      unfold pS
      rw [← pr_mul, ← pr_mul]
      refine pr_congr (fun d hd => ?_)
      cases qO : O d with
      | true =>
        cases qA : A d with
        | true =>
          have qi : im d = true := ((hAO d hd).mp (by rw [qA, qO]; rfl)).1
          simp [qi, qO, qA]
        | false =>
          have qi : ¬ im d = true := fun q2 => by have := (hAO d hd).mpr ⟨q2, qO⟩; rw [qA] at this; cases this
          simp [qi, qO, qA]
      | false =>
        have := hag d (by rw [qO]; simp)
        by_cases qi : im d = true
        · simp [qi, qO, inB, this]
        · simp [qi, qO]
    · rw [if_neg q, if_neg q, Nat.mul_zero]
  rw [asum_cg (Q := fun g1 => sm (fun p => if cB o0 o1 p then pr (fun d => if (im d && !O d) = true then inB g p d else 1) N * pr (fun d => if (A d && O d) = true then S d (g1 d) * inB g1 p d else 1) N else 0) 144) N g hg (fun g1 h1 _ h3 => e1 g1 h1 h3), asum_sm]
  refine sm_congr (fun p hp => ?_)
  by_cases q : cB o0 o1 p
  · simp only [if_pos q]
    rw [asum_mul]
    congr 1
    have e2 := asum_prod (A := fun d => A d && O d) (F := fun d y => S d y * (if p / 12 ≤ y ∧ y ≤ p % 12 then 1 else 0)) N g hg
    refine Eq.trans (Eq.trans ?_ e2) (pr_congr (fun d _ => ?_))
    · rfl
    · by_cases q2 : (A d && O d) = true
      · rw [if_pos q2, if_pos q2, ← sm_rng12 _ (show p % 12 + 1 ≤ 12 by omega)]
        refine sm_congr (fun y _ => ?_)
        by_cases q3 : p / 12 ≤ y ∧ y ≤ p % 12
        · rw [if_pos q3, if_pos ⟨q3.1, by omega⟩, Nat.mul_one]
        · rw [if_neg q3, if_neg (fun q4 => q3 (by omega)), Nat.mul_zero]
      · rw [if_neg q2, if_neg q2]
  · simp only [if_neg q]
    have : ∀ n f, asum (fun d => A d && O d) (fun _ => 0) n f = 0 := fun n f => by
      have := asum_mul (A := fun d => A d && O d) (P := fun _ => 0) 0 n f
      simp only [Nat.zero_mul] at this
      exact this
    exact this N g
theorem ph_step (hO : FO fr tt nf nt N x k hm) (hN6 : N ≤ 6) {im : Nat → Bool} {fb : Nat → Option Nat} {I P : Nat → Nat} {ι : (Nat → Nat) → Nat} {f : Nat → Nat} (him : ∀ d, d < N → (im d = true ↔ ∃ i, i < nt ∧ memO fr tt nf i = some d)) (hf : yOk f) (hι : ∀ d, d ≠ x → ∀ g y, yOk g → y < 12 → ι (va_up g d y) = ι g) (hιg : ∀ g g1 : Nat → Nat, g x = g1 x → ι g = ι g1) {S : Nat → Nat → Nat} {fa : Nat} {A R : Nat → Bool} (h : IX fr le mo tt nf nt N k hm A R) (hA : ∀ t, hm ≤ t → t < N → A (k.2.2.2.1 t) = im (k.2.2.2.1 t)) : ∃ A1, IX fr le mo tt nf nt N k hm A1 R ∧ (∀ t, hm ≤ t → t < N → A1 (k.2.2.2.1 t) = false) ∧ EE fr (xv tt) le mo N nt A S R (fun g => phi im (oB fb 0) (oB fb 1) N g * ι g) f * fa = EE fr (xv tt) le mo N nt A1 (pPh k.2.2.2.1 im hm N fb I P (S, fa)).1 R ι f * (pPh k.2.2.2.1 im hm N fb I P (S, fa)).2 := by
  classical
  let O : Nat → Bool := fun d => decide (∃ t, hm ≤ t ∧ t < N ∧ k.2.2.2.1 t = d)
  have hOt : ∀ t, hm ≤ t → t < N → O (k.2.2.2.1 t) = true := fun t h1 h2 => decide_eq_true ⟨t, h1, h2, rfl⟩
  have hOf : ∀ t, t < hm → O (k.2.2.2.1 t) = false := fun t h1 => decide_eq_false (fun ⟨t1, h2, h3, h4⟩ => by
    have := hO.inj t1 t h3 (by have := hO.hN; omega) h4
    omega)
  have hOx : ∀ d, O d = true → ∃ t, hm ≤ t ∧ t < N ∧ k.2.2.2.1 t = d := fun d hd => of_decide_eq_true hd
  have hhN := hO.hN
  have hh1 := hO.h1
  have hAO : ∀ d, d < N → ((A d && O d) = true ↔ (im d = true ∧ O d = true)) := fun d hd => by
    rw [Bool.and_eq_true]
    refine ⟨fun ⟨a, b⟩ => ?_, fun ⟨a, b⟩ => ?_⟩
    · obtain ⟨t, h1, h2, h3⟩ := hOx d b
      rw [← h3, hA t h1 h2] at a
      exact ⟨h3 ▸ a, b⟩
    · obtain ⟨t, h1, h2, h3⟩ := hOx d b
      rw [← h3, ← hA t h1 h2] at a
      exact ⟨h3 ▸ a, b⟩
  have hxO : O x = false := by rw [← hO.r0.1]; exact hOf 0 (by omega)
  have hends : ∀ i, i < nt → R i = true → O (fr i) = false ∧ O (xv tt i) = false := fun i hi hR => by
    obtain ⟨-, t, p, ht, hp, hr⟩ := h.r1 i hi hR
    obtain ⟨j1, hj1, he, i1, hi1, hr1, ho⟩ := hO.pa t (by omega) p hp
    rw [hr] at hr1
    cases hr1
    have o1 := hOf t ht
    have o2 := hOf j1 (by omega)
    rw [he] at o2
    rcases (oth_ends ho).1 with ⟨a, b⟩ | ⟨a, b⟩
    · rw [a, b]; exact ⟨o1, o2⟩
    · rw [a, b]; exact ⟨o2, o1⟩
  have hA1 : ∀ t, t < hm → (A (k.2.2.2.1 t) && !O (k.2.2.2.1 t)) = true := fun t ht => by rw [h.a1 t ht, hOf t ht]; rfl
  have hstep : EE fr (xv tt) le mo N nt A S R (fun g => phi im (oB fb 0) (oB fb 1) N g * ι g) f = asum (fun d => A d && !O d) (fun g => (pS (fun d => A d && !O d) S g N * pR fr (xv tt) le mo R g nt * ι g) * asum (fun d => A d && O d) (fun g1 => pS (fun d => A d && O d) S g1 N * phi im (oB fb 0) (oB fb 1) N g1) N g) N f := by
    unfold EE
    rw [asum_split (O := O) N f]
    refine asum_congr hf (fun g hg => ?_)
    rw [← asum_mul]
    refine asum_cg N g hg (fun g1 hg1 _ hag => ?_)
    have e1 : pS A S g1 N = pS (fun d => A d && !O d) S g1 N * pS (fun d => A d && O d) S g1 N := by
      unfold pS
      rw [← pr_mul]
      refine pr_congr (fun d _ => ?_)
      cases qO : O d <;> cases qA : A d <;> simp [qO, qA]
    show pS A S g1 N * pR fr (xv tt) le mo R g1 nt * (phi im (oB fb 0) (oB fb 1) N g1 * ι g1) = _
    rw [e1, pS_ag (g := g) (g1 := g1) (A := fun d => A d && !O d) (fun d _ q => hag d (by
      have : O d = false := by cases qO : O d with
        | false => rfl
        | true => rw [qO] at q; simp at q
      rw [this]; simp)), pR_ag (g := g) (g1 := g1) (fun i hi hR => ⟨hag _ (by rw [(hends i hi hR).1]; simp), hag _ (by rw [(hends i hi hR).2]; simp)⟩), hιg g1 g (hag x (by rw [hxO]; simp))]
    ac_rfl
  have hIX : IX fr le mo tt nf nt N k hm (fun d => A d && !O d) R := ⟨hA1, h.r1, h.r2⟩
  have hAf : ∀ t, hm ≤ t → t < N → (A (k.2.2.2.1 t) && !O (k.2.2.2.1 t)) = false := fun t h1 h2 => by rw [hOt t h1 h2]; simp
  refine ⟨fun d => A d && !O d, hIX, hAf, ?_⟩
  have hoI : oInj k.2.2.2.1 hm (N - hm) := fun i j h1 h2 e => by have := hO.inj (hm + i) (hm + j) (by omega) (by omega) e; omega
  rw [hstep]
  by_cases hany : anyU k.2.2.2.1 im N = true
  · have hany2 : anyM im N = true := by
      obtain ⟨j, h1, h2⟩ := (anyU_iff N).mp hany
      exact anyM_iff.mpr ⟨_, hO.lt j h1, h2⟩
    have hq : ∀ p, p < 144 → pr (fun d => if (A d && O d) = true then rng (S d) (p / 12) (p % 12 + 1) else 1) N = qP k.2.2.2.1 im S hm (N - hm) (p / 12) (p % 12) := fun p hp => by
      unfold qP
      refine (pr_pos (fun d => if im d = true then rng (S d) (p / 12) (p % 12 + 1) else 1) (N - hm) _ hoI (fun t ht => hO.lt _ (by omega)) (fun d hd hex => ?_) (fun d hd hno => ?_)).symm
      · obtain ⟨t, h1, h2⟩ := hex
        have hOd : O d = true := h2 ▸ hOt (hm + t) (by omega) (by omega)
        by_cases q : im d = true
        · rw [if_pos ((hAO d hd).mpr ⟨q, hOd⟩), if_pos q]
        · rw [if_neg (fun q2 => q ((hAO d hd).mp q2).1), if_neg q]
      · refine if_neg (fun q => hno ?_)
        obtain ⟨t, h1, h2, h3⟩ := hOx d ((hAO d hd).mp q).2
        exact ⟨t - hm, by omega, by rw [show hm + (t - hm) = t by omega]; exact h3⟩
    obtain ⟨sb1, sb2⟩ := sBo_spec (im := im) (S := S) (fb := fb) hoI (fun t ht => Nat.lt_of_lt_of_le (hO.lt _ (by omega)) hN6) I (upto 12 Z0 P) 0 12
    have hX : ∀ g, yOk g → asum (fun d => A d && O d) (fun g1 => pS (fun d => A d && O d) S g1 N * phi im (oB fb 0) (oB fb 1) N g1) N g = sm (fun p => if cB (oB fb 0) (oB fb 1) p then pr (fun d => if (im d && !O d) = true then inB g p d else 1) N * qP k.2.2.2.1 im S hm (N - hm) (p / 12) (p % 12) else 0) 144 := fun g hg => by
      rw [ph_in (fun _ _ => trivial) hAO hany2 hg]
      refine sm_congr (fun p hp => ?_)
      rw [hq p hp]
    unfold pPh
    rw [if_pos hany]
    obtain ⟨m1, m2⟩ := mhU_spec (od := k.2.2.2.1) (im := im) (hm := hm) N
    cases hmh : mhU k.2.2.2.1 im hm N with
    | none =>
      show _ = EE fr (xv tt) le mo N nt (fun d => A d && !O d) S R ι f * (fa * _)
      have hH : ∀ g p, pr (fun d => if (im d && !O d) = true then inB g p d else 1) N = 1 := fun g p => pr_ones (fun d hd => if_neg (fun q => by
        rw [Bool.and_eq_true] at q
        obtain ⟨t, ht, he⟩ := hO.ex d hd
        by_cases q2 : t < hm
        · have := m1 hmh t ht q2
          rw [he, q.1] at this; cases this
        · have := hOt t (by omega) ht
          rw [he] at this
          rw [this] at q; cases q.2))
      have hX2 : ∀ g, yOk g → asum (fun d => A d && O d) (fun g1 => pS (fun d => A d && O d) S g1 N * phi im (oB fb 0) (oB fb 1) N g1) N g = (sBo k.2.2.2.1 im S hm (N - hm) fb (I, upto 12 Z0 P, 0) 12).2.2 := fun g hg => by
        rw [hX g hg, sb2, Nat.zero_add]
        simp only [hH, Nat.one_mul]
        rw [pairs (oB fb 0) (oB fb 1) (fun a b => qP k.2.2.2.1 im S hm (N - hm) a b)]
        refine sm_congr (fun a _ => ?_)
        simp only [oB_iff]
      rw [asum_congr hf (fun g hg => by rw [hX2 g hg, Nat.mul_comm]), asum_mul]
      unfold EE
      ac_rfl
    | some mh =>
      obtain ⟨t0, ht0, ht1, hi0, rfl⟩ := m2 mh hmh
      show _ = EE fr (xv tt) le mo N nt (fun d => A d && !O d) (rowS S (k.2.2.2.1 t0) 12 (fun y => S (k.2.2.2.1 t0) y * (sBo k.2.2.2.1 im S hm (N - hm) fb (I, upto 12 Z0 P, 0) 12).2.1 y)) R ι f * fa
      congr 1
      unfold EE
      refine asum_congr hf (fun g hg => ?_)
      have hH : ∀ p, pr (fun d => if (im d && !O d) = true then inB g p d else 1) N = inB g p (k.2.2.2.1 t0) := fun p => by
        rw [pr_out (r := k.2.2.2.1 t0) (G := fun _ => 1) (hO.lt _ ht0) (fun d hd hne => if_neg (fun q => by
          rw [Bool.and_eq_true] at q
          obtain ⟨t, ht, he⟩ := hO.ex d hd
          by_cases q2 : t < hm
          · obtain ⟨i, hi, hm1⟩ := (him _ (hO.lt _ ht0)).mp hi0
            obtain ⟨i2, hi2, hm2⟩ := (him d hd).mp q.1
            rw [← he] at hm2
            have := hO.one i i2 t0 t hi hi2 ht1 q2 hm1 hm2
            rw [this] at hne
            exact hne he.symm
          · have := hOt t (by omega) ht
            rw [he] at this
            rw [this] at q; cases q.2)) rfl, pr_ones (fun _ _ => rfl), Nat.one_mul, if_pos (by rw [hi0, hOf t0 ht1]; rfl)]
      have hX2 : asum (fun d => A d && O d) (fun g1 => pS (fun d => A d && O d) S g1 N * phi im (oB fb 0) (oB fb 1) N g1) N g = (sBo k.2.2.2.1 im S hm (N - hm) fb (I, upto 12 Z0 P, 0) 12).2.1 (g (k.2.2.2.1 t0)) := by
        rw [hX g hg, sb1, upto_lt _ _ (hg _)]
        show _ = 0 + _
        rw [Nat.zero_add]
        simp only [hH]
        have e3 : ∀ p, p < 144 → (if cB (oB fb 0) (oB fb 1) p then inB g p (k.2.2.2.1 t0) * qP k.2.2.2.1 im S hm (N - hm) (p / 12) (p % 12) else 0) = (if cB (oB fb 0) (oB fb 1) p then (fun a b => if a ≤ g (k.2.2.2.1 t0) ∧ g (k.2.2.2.1 t0) ≤ b then qP k.2.2.2.1 im S hm (N - hm) a b else 0) (p / 12) (p % 12) else 0) := fun p _ => by
          congr 1
          unfold inB
          show _ = (if _ then _ else _)
          by_cases q : p / 12 ≤ g (k.2.2.2.1 t0) ∧ g (k.2.2.2.1 t0) ≤ p % 12
          · rw [if_pos q, if_pos q, Nat.one_mul]
          · rw [if_neg q, if_neg q, Nat.zero_mul]
        rw [sm_congr e3]
        refine (pairs (oB fb 0) (oB fb 1) (fun a b => if a ≤ g (k.2.2.2.1 t0) ∧ g (k.2.2.2.1 t0) ≤ b then qP k.2.2.2.1 im S hm (N - hm) a b else 0)).trans ?_
        refine sm_congr (fun a _ => ?_)
        by_cases q : fb 0 = none ∨ fb 0 = some a
        · rw [if_pos q, if_pos (oB_iff.mpr q)]
          refine sm_congr (fun t _ => ?_)
          by_cases q1 : fb 1 = none ∨ fb 1 = some (a + t)
          · rw [if_pos (oB_iff.mpr q1)]
            by_cases q2 : a ≤ g (k.2.2.2.1 t0) ∧ g (k.2.2.2.1 t0) ≤ a + t
            · rw [if_pos q2, if_pos ⟨q1, q2⟩]
            · rw [if_neg q2, if_neg (fun q3 => q2 q3.2)]
          · rw [if_neg (fun q3 => q1 (oB_iff.mp q3)), if_neg (fun q3 => q1 q3.1)]
        · rw [if_neg q, if_neg (fun q3 => q (oB_iff.mp q3))]
      rw [hX2, pS_out (d := k.2.2.2.1 t0) (hO.lt _ ht0) (hA1 t0 ht1), pS_out (S := rowS S _ _ _) (d := k.2.2.2.1 t0) (hO.lt _ ht0) (hA1 t0 ht1)]
      have e4 : pS (va_up (fun d => A d && !O d) (k.2.2.2.1 t0) false) (rowS S (k.2.2.2.1 t0) 12 (fun y => S (k.2.2.2.1 t0) y * (sBo k.2.2.2.1 im S hm (N - hm) fb (I, upto 12 Z0 P, 0) 12).2.1 y)) g N = pS (va_up (fun d => A d && !O d) (k.2.2.2.1 t0) false) S g N := by
        refine pr_congr (fun i _ => ?_)
        by_cases q : i = k.2.2.2.1 t0
        · rw [q, va_up_self]; rfl
        · unfold rowS; rw [va_up_ne S _ q]
      rw [e4]
      unfold rowS
      rw [va_up_self, if_pos (hg _)]
      dsimp only
      ac_rfl
  · have hno : ∀ d, d < N → im d = false := fun d hd => by
      cases q : im d with
      | false => rfl
      | true =>
        obtain ⟨t, ht, he⟩ := hO.ex d hd
        exact absurd ((anyU_iff N).mpr ⟨t, ht, he ▸ q⟩) hany
    have hany2 : ¬ anyM im N = true := fun q => by
      obtain ⟨d, hd, h1⟩ := anyM_iff.mp q
      rw [hno d hd] at h1; cases h1
    have hA2 : ∀ d, d < N → (A d && O d) = false := fun d hd => by
      cases q : (A d && O d) with
      | false => rfl
      | true => have := ((hAO d hd).mp q).1; rw [hno d hd] at this; cases this
    unfold pPh
    rw [if_neg hany]
    congr 1
    unfold EE
    refine asum_congr hf (fun g hg => ?_)
    rw [asum_none N g hA2]
    unfold phi
    rw [if_neg hany2]
    have : pS (fun d => A d && O d) S g N = 1 := pr_ones (fun d hd => if_neg (fun q => by have q : (A d && O d) = true := q; rw [hA2 d hd] at q; cases q))
    rw [this, Nat.mul_one]
end
