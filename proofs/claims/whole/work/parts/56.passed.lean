/-! The sums passed to a date are the sums over all ways -/
theorem WS_congr {u v le mo : Nat → Nat} {R R1 : Nat → Bool} {N nt : Nat} {mem mem1 o0 o1 p0 p1 : Nat → Bool} {W V : Nat → Nat → Nat} (hW : ∀ d y, d < N → y < 12 → W d y = V d y) (hR : ∀ i, i < nt → R i = R1 i) (hm : ∀ d, d < N → mem d = mem1 d) (h0 : ∀ y, y < 12 → o0 y = p0 y) (h1 : ∀ y, y < 12 → o1 y = p1 y) : WS u v le mo R N nt mem o0 o1 W = WS u v le mo R1 N nt mem1 p0 p1 V := by
  unfold WS EE
  refine asum_congr yOk_Z0 (fun g hg => ?_)
  have e1 : pS (fun _ => true) W g N = pS (fun _ => true) V g N := pr_congr (fun d hd => by rw [if_pos rfl, if_pos rfl, hW d _ hd (hg d)])
  have e2 : pR u v le mo R g nt = pR u v le mo R1 g nt := pr_congr (fun i hi => by rw [hR i hi])
  have e3 : anyM mem N = anyM mem1 N := by
    cases q : anyM mem1 N with
    | true =>
      obtain ⟨d, h2, h3⟩ := anyM_iff.mp q
      exact anyM_iff.mpr ⟨d, h2, (hm d h2).trans h3⟩
    | false =>
      cases q2 : anyM mem N with
      | false => rfl
      | true =>
        obtain ⟨d, h2, h3⟩ := anyM_iff.mp q2
        rw [anyM_iff.mpr ⟨d, h2, (hm d h2).symm.trans h3⟩] at q; cases q
  have e4 : phi mem o0 o1 N g = phi mem1 p0 p1 N g := by
    unfold phi
    rw [e3]
    by_cases qa : anyM mem1 N = true
    case neg => rw [if_neg qa, if_neg qa]
    rw [if_pos qa, if_pos qa]
    refine sm_congr (fun p hp => ?_)
    have e5 : cB o0 o1 p ↔ cB p0 p1 p := by
      unfold cB
      rw [h0 (p / 12) (by omega), h1 (p % 12) (by omega)]
    by_cases q : cB p0 p1 p
    · rw [if_pos q, if_pos (e5.mpr q)]
      exact pr_congr (fun d hd => by rw [hm d hd])
    · rw [if_neg q, if_neg (fun q2 => q (e5.mp q2))]
  rw [e1, e2, e4]
theorem imU_iff {fr : Nat → Nat} {tt : Nat → Option Nat} {nf im : Nat → Bool} {d : Nat} (hd : d < 6) : ∀ n, imU fr tt nf im n d = true ↔ ∃ i, i < n ∧ memO fr tt nf i = some d := by
  intro n
  induction n with
  | zero =>
    show noB 6 im d = true ↔ _
    unfold noB
    rw [if_pos hd]
    exact ⟨fun h => (by cases h), fun ⟨i, h, _⟩ => (by omega)⟩
  | succ n ih =>
    cases q : memO fr tt nf n with
    | none =>
      rw [imU_none q, ih]
      constructor
      · rintro ⟨i, h1, h2⟩; exact ⟨i, by omega, h2⟩
      · rintro ⟨i, h1, h2⟩
        have : i ≠ n := fun e => by rw [e, q] at h2; cases h2
        exact ⟨i, by omega, h2⟩
    | some e =>
      rw [imU_some q]
      by_cases q2 : d = e
      · subst q2
        rw [va_up_self]
        exact ⟨fun _ => ⟨n, by omega, q⟩, fun _ => rfl⟩
      · rw [va_up_ne _ _ q2, ih]
        constructor
        · rintro ⟨i, h1, h2⟩; exact ⟨i, by omega, h2⟩
        · rintro ⟨i, h1, h2⟩
          have : i ≠ n := fun e => by rw [e, q] at h2; cases h2; exact q2 rfl
          exact ⟨i, by omega, h2⟩
section
variable {fr le mo : Nat → Nat} {tt : Nat → Option Nat} {nf : Nat → Bool} {nt N x hm : Nat} {k : KQ}
theorem pT3_FO (hN6 : N ≤ 6) (hT : TN fr tt nt N) (hO : FO fr tt nf nt N x k hm) (hx : x < N) {im : Nat → Bool} (him : ∀ d, d < N → (im d = true ↔ ∃ i, i < nt ∧ memO fr tt nf i = some d)) (fb : Nat → Option Nat) (I P : Nat → Nat) (S : Nat → Nat → Nat) {y : Nat} (hy : y < 12) : (pT3 fr le mo im k hm fb I P S).1 x y * (pT3 fr le mo im k hm fb I P S).2 = WS fr (xv tt) le mo (xR tt nf) N nt im (oB fb 0) (oB fb 1) (fixW S x y) := by
  have hhN := hO.hN
  have hh1 := hO.h1
  have hq := hO.q
  rw [WS_fix hx]
  have hi0 : IX fr le mo tt nf nt N k N (fun _ => true) (xR tt nf) := ⟨fun _ _ => rfl, fun i hi hR => by
      refine ⟨hR, ?_⟩
      have h1 : nf i = true := by cases q : nf i with
        | true => rfl
        | false => rw [xR, q] at hR; cases hR
      cases ht : tt i with
      | none => rw [xR, ht] at hR; simp at hR
      | some e => exact hO.ch i e hi h1 ht, fun t p i ht hp hr => by
      obtain ⟨j1, hj1, he, i1, hi1, hr1, ho⟩ := hO.pa t ht p hp
      rw [hr] at hr1
      cases hr1
      exact (oth_ends ho).2⟩
  obtain ⟨A1, R1, a1, a2, a3⟩ := hDn_1 hO hT him (φ := fun g => phi im (oB fb 0) (oB fb 1) N g * iot x y g) yOk_Z0 (fun d h1 h2 g z _ _ => by rw [phi_up h1, iot_up h2]) (N - hm) S 1 (fun _ => true) (xR tt nf) (by omega) (by rw [show hm + (N - hm) = N by omega]; exact hi0) (fun t h1 h2 => by omega)
  obtain ⟨A2, b1, b2, b3⟩ := ph_step (fb := fb) (I := I) (P := P) (ι := iot x y) hO hN6 him yOk_Z0 (fun d hd g z _ _ => iot_up hd) (fun g g1 e => by unfold iot; rw [e]) (S := (hDn fr le mo k.2.1 k.2.2.1 im k.2.2.2.1 hm (N - hm) (S, 1)).1) (fa := (hDn fr le mo k.2.1 k.2.2.1 im k.2.2.2.1 hm (N - hm) (S, 1)).2) a1 a2
  have e1 : pPh k.2.2.2.1 im hm N fb I P ((hDn fr le mo k.2.1 k.2.2.1 im k.2.2.2.1 hm (N - hm) (S, 1)).1, (hDn fr le mo k.2.1 k.2.2.1 im k.2.2.2.1 hm (N - hm) (S, 1)).2) = pT2 fr le mo im k hm fb I P S := by
    unfold pT2 pT1
    rw [hq]
  rw [e1] at b3
  obtain ⟨A3, R3, c1, c2, c3, c4⟩ := hDn_2 hO hT (im := im) (φ := iot x y) yOk_Z0 (fun d hd g z _ _ => iot_up hd) (hm - 1) (pT2 fr le mo im k hm fb I P S).1 (pT2 fr le mo im k hm fb I P S).2 A2 R1 (by omega) (by rw [show 1 + (hm - 1) = hm by omega]; exact b1) (by rw [show 1 + (hm - 1) = hm by omega]; exact b2)
  have e2 : hDn fr le mo k.2.1 k.2.2.1 im k.2.2.2.1 1 (hm - 1) ((pT2 fr le mo im k hm fb I P S).1, (pT2 fr le mo im k hm fb I P S).2) = pT3 fr le mo im k hm fb I P S := rfl
  rw [e2] at c3 c4
  rw [Nat.mul_one] at a3
  rw [a3, b3, c3, c4]
  congr 1
  have hAx : A3 x = true := by rw [← hO.r0.1]; exact c1.a1 0 (by omega)
  have hAo : ∀ d, d < N → d ≠ x → A3 d = false := fun d hd hne => by
    obtain ⟨t, ht, he⟩ := hO.ex d hd
    rw [← he]
    refine c2 t (Nat.pos_of_ne_zero (fun q => hne ?_)) ht
    rw [← he, q]; exact hO.r0.1
  have hR3 : ∀ i, i < nt → R3 i = false := fun i hi => by
    cases q : R3 i with
    | false => rfl
    | true =>
      obtain ⟨-, t, p, ht, hp, -⟩ := c1.r1 i hi q
      rw [show t = 0 by omega, hO.r0.1, hO.r0.2] at hp
      cases hp
  unfold EE
  rw [asum_take hAx N Z0 hx, asum_none N Z0 (fun d hd => by
    by_cases q : d = x
    · rw [q, va_up_self]
    · rw [va_up_ne _ _ q]; exact hAo d hd q), sm_one hy (fun z hz hne => by
    unfold iot; rw [va_up_self, if_neg hne, Nat.mul_zero])]
  rw [pS_out hx hAx, va_up_self]
  unfold iot
  rw [va_up_self, if_pos rfl, Nat.mul_one]
  have e3 : pS (va_up A3 x false) (pT3 fr le mo im k hm fb I P S).1 (va_up Z0 x y) N = 1 := pr_ones (fun d hd => if_neg (fun q => by
    by_cases q2 : d = x
    · rw [q2, va_up_self] at q; cases q
    · rw [va_up_ne _ _ q2, hAo d hd q2] at q; cases q))
  have e4 : pR fr (xv tt) le mo R3 (va_up Z0 x y) nt = 1 := pr_ones (fun i hi => if_neg (fun q => by rw [hR3 i hi] at q; cases q))
  rw [e3, e4, Nat.one_mul, Nat.mul_one]
theorem stS_at {wt : Nat → Nat → Nat} {ab be : Nat → Nat} {fy : Nat → Option Nat} {S : Nat → Nat → Nat} : ∀ n d y, d < n → y < 12 → stS wt ab be fy S n d y = s0 wt ab be fy d y := by
  intro n
  induction n with
  | zero => intro d y h; omega
  | succ n ih =>
    intro d y hd hy
    show rowS (stS wt ab be fy S n) n 12 (s0 wt ab be fy n) d y = _
    unfold rowS
    by_cases q : d = n
    · rw [q, va_up_self, if_pos hy]
    · rw [va_up_ne _ _ q]; exact ih d y (by omega) hy
/-- the sums at the date that they were passed to -/
theorem passed (hN6 : N ≤ 6) (hT : TN fr tt nt N) (hF : FST fr tt nt) (k : KQ) (hx : x < N) (im : Nat → Bool) (fb fy : Nat → Option Nat) (I P : Nat → Nat) (S wt : Nat → Nat → Nat) (ab be : Nat → Nat) {y : Nat} (hy : y < 12) : (pT3 fr le mo (imU fr tt nf im nt) (ordK fr tt nf nt k x N) (ordH fr tt nf nt k x).2.2.2.2 fb I P (stS wt ab be fy S N)).1 x y * (pT3 fr le mo (imU fr tt nf im nt) (ordK fr tt nf nt k x N) (ordH fr tt nf nt k x).2.2.2.2 fb I P (stS wt ab be fy S N)).2 = WS fr (xv tt) le mo (xR tt nf) N nt (imU fr tt nf im nt) (oB fb 0) (oB fb 1) (fixW (s0 wt ab be fy) x y) := by
  rw [pT3_FO hN6 hT (ord_FO hN6 hT hF k hx) hx (fun d hd => imU_iff (by omega) nt) fb I P _ hy]
  refine WS_congr (fun d z hd hz => ?_) (fun _ _ => rfl) (fun _ _ => rfl) (fun _ _ => rfl) (fun _ _ => rfl)
  unfold fixW
  rw [stS_at N d z hd hz]
end
