/-! The reference's sum: its beginning and its end -/
section
variable {on1 ot2 lea mos : Nat → Nat} {tld dts cn9 : Nat}
theorem bits_lt {n d : Nat} : (2 ^ n - 1).testBit d = true ↔ d < n := by
  rw [Nat.testBit_two_pow_sub_one]; simp
/-- what is asked: the rows and members that are counted -/
def mWS (on1 ot2 lea mos : Nat → Nat) (tld dts cn9 fs ls : Nat) (W : Nat → Nat → Nat) : Nat := WS on1 ot2 lea mos (fun i => (lfU cn9 on1 ot2 tld).testBit i) dts tld (fun d => (mbU cn9 on1 ot2 tld).testBit d) (fun y => fs.testBit y) (fun y => ls.testBit y) W
theorem JJ.zero (hd6 : dts ≤ 6) (hT : TN on1 (mtt on1 ot2) tld dts) (fs ls : Nat) (F bv0 : Nat → Nat) : JJ on1 ot2 lea mos tld dts cn9 (fun y => fs.testBit y) (fun y => ls.testBit y) bv0 (mWS on1 ot2 lea mos tld dts cn9 fs ls (fun d y => F (12 * d + y))) (lfU cn9 on1 ot2 tld) (upto (12 * dts) F bv0) (2 ^ dts - 1) := by
  refine ⟨?_, fun _ h => h, Nat.le_refl _, Nat.le_refl _, fun i hi => ?_, fun d hd => ?_, fun x hx => ?_⟩
  · refine EE_congr yOk_Z0 (fun d hd => bits_lt.mpr hd) (fun d y hd _ hy => ?_) (fun _ _ => rfl) (fun _ _ _ => rfl)
    rw [upto_lt _ _ (by omega)]
  · obtain ⟨h1, h2, h3⟩ := (lfU_bit cn9 on1 ot2 i tld).mp hi
    exact ⟨bits_lt.mpr (hT i h1).1, bits_lt.mpr ((hT i h1).2 (ot2 i) (mtt_s.mpr ⟨h3, rfl⟩)).1⟩
  · obtain ⟨i, h1, h2, h3, h4⟩ := (mbU_bit cn9 on1 ot2 d tld).mp hd
    exact bits_lt.mpr (h4 ▸ (hT i h1).1)
  · unfold upto; rw [if_neg (by omega)]
theorem sR_pr {bv : Nat → Nat} {al mb : Nat} : ∀ n, sR bv al mb n = pr (fun d => if (al.testBit d && !mb.testBit d) = true then sm (fun y => bv (12 * d + y)) 12 else 1) n := by
  intro n
  induction n with
  | zero => rfl
  | succ n ih =>
    rw [pr_s]
    by_cases q : al.testBit n = true ∧ mb.testBit n = false
    · have e : rng (fun y => bv (12 * n + y)) 0 12 = sm (fun y => bv (12 * n + y)) 12 := by
        unfold rng
        exact sm_congr (fun y _ => by rw [Nat.zero_add])
      rw [sR_t q, if_pos (by rw [q.1, q.2]; rfl), ih, e]
    · have q1 : ¬ (al.testBit n && !mb.testBit n) = true := fun q2 => q (by
        rw [Bool.and_eq_true] at q2
        exact ⟨q2.1, by cases q3 : mb.testBit n with
          | false => rfl
          | true => rw [q3] at q2; cases q2.2⟩)
      rw [sR_f q, if_neg q1, Nat.mul_one, ih]
theorem sPn_pr {bv : Nat → Nat} {mb rs p : Nat} : ∀ n, sPn bv mb rs p n = rs * pr (fun d => if mb.testBit d = true then rng (fun y => bv (12 * d + y)) (p / 12) (p % 12 + 1) else 1) n := by
  intro n
  induction n with
  | zero => exact (Nat.mul_one _).symm
  | succ n ih =>
    rw [pr_s]
    by_cases q : mb.testBit n = true
    · rw [sPn_t q, if_pos q, ih, Nat.mul_assoc]
    · rw [sPn_f q, if_neg q, Nat.mul_one, ih]
theorem sT_sm {bv : Nat → Nat} {mb rs fs ls : Nat} : ∀ n, sT bv mb rs dts fs ls n = sm (fun p => if (mb = 0 ∧ p = 0) ∨ (mb ≠ 0 ∧ p / 12 ≤ p % 12 ∧ fs.testBit (p / 12) = true ∧ ls.testBit (p % 12) = true) then sPn bv mb rs p dts else 0) n := by
  intro n
  induction n with
  | zero => rfl
  | succ n ih =>
    rw [sm_s]
    by_cases q : (mb = 0 ∧ n = 0) ∨ (mb ≠ 0 ∧ n / 12 ≤ n % 12 ∧ fs.testBit (n / 12) = true ∧ ls.testBit (n % 12) = true)
    · rw [sT_t q, if_pos q, ih]
    · rw [sT_f q, if_neg q, ih, Nat.add_zero]
theorem JJ.done (hd6 : dts ≤ 6) (hT : TN on1 (mtt on1 ot2) tld dts) {fs ls : Nat} {bv0 : Nat → Nat} {T : Nat} {bv : Nat → Nat} {al : Nat} (h : JJ on1 ot2 lea mos tld dts cn9 (fun y => fs.testBit y) (fun y => ls.testBit y) bv0 T 0 bv al) : sT bv (mbU cn9 on1 ot2 tld) (sR bv al (mbU cn9 on1 ot2 tld) dts) dts fs ls 144 = T := by
  have hM := h.M
  rw [← h.E]
  have hbit : ∀ d, (mbU cn9 on1 ot2 tld).testBit d = true → d < dts := fun d hd => by
    obtain ⟨i, h1, h2, h3, h4⟩ := (mbU_bit cn9 on1 ot2 d tld).mp hd
    exact h4 ▸ (hT i h1).1
  generalize mbU cn9 on1 ot2 tld = mb at hM hbit
  unfold EE
  rw [asum_congr yOk_Z0 (Q := fun g => pS (fun d => al.testBit d) (fun d y => bv (12 * d + y)) g dts * phi (fun d => mb.testBit d) (fun y => fs.testBit y) (fun y => ls.testBit y) dts g) (fun g _ => by
    rw [show pR on1 ot2 lea mos (fun i => (0 : Nat).testBit i) g tld = 1 from pr_ones (fun i _ => if_neg (by simp)), Nat.mul_one])]
  by_cases q : mb = 0
  · subst q
    rw [sT_sm, sm_one (k := 0) (by omega) (fun p _ hp => if_neg (fun q => q.elim (fun q => hp q.2) (fun q => q.1 rfl))), if_pos (Or.inl ⟨rfl, rfl⟩), sPn_pr, sR_pr, pr_ones (F := fun d => if (0 : Nat).testBit d = true then rng (fun y => bv (12 * d + y)) (0 / 12) (0 % 12 + 1) else 1) (fun d _ => if_neg (by rw [Nat.zero_testBit]; simp)), Nat.mul_one]
    rw [asum_congr yOk_Z0 (Q := fun g => pr (fun d => if al.testBit d = true then (fun d y => bv (12 * d + y)) d (g d) else 1) dts) (fun g _ => by
      unfold phi
      rw [if_neg (fun q => by obtain ⟨d, _, h1⟩ := anyM_iff.mp q; rw [Nat.zero_testBit] at h1; cases h1), Nat.mul_one]; rfl)]
    refine Eq.trans ?_ (asum_prod (A := fun d => al.testBit d) (F := fun d y => bv (12 * d + y)) dts Z0 yOk_Z0).symm
    exact pr_congr (fun d _ => by simp)
  · obtain ⟨d0, hd0⟩ := Nat.exists_testBit_of_ne_zero q
    have hany : anyM (fun d => mb.testBit d) dts = true := anyM_iff.mpr ⟨d0, hbit d0 hd0, hd0⟩
    rw [asum_split (O := fun d => mb.testBit d) dts Z0]
    have e1 : ∀ g, yOk g → asum (fun d => al.testBit d && mb.testBit d) (fun g => pS (fun d => al.testBit d) (fun d y => bv (12 * d + y)) g dts * phi (fun d => mb.testBit d) (fun y => fs.testBit y) (fun y => ls.testBit y) dts g) dts g = (sm (fun p => if cB (fun y => fs.testBit y) (fun y => ls.testBit y) p then pr (fun d => if mb.testBit d = true then rng (fun y => bv (12 * d + y)) (p / 12) (p % 12 + 1) else 1) dts else 0) 144) * pS (fun d => al.testBit d && !mb.testBit d) (fun d y => bv (12 * d + y)) g dts := by
      intro g hg
      rw [asum_cg (Q := fun g1 => pS (fun d => al.testBit d && !mb.testBit d) (fun d y => bv (12 * d + y)) g dts * (pS (fun d => al.testBit d && mb.testBit d) (fun d y => bv (12 * d + y)) g1 dts * phi (fun d => mb.testBit d) (fun y => fs.testBit y) (fun y => ls.testBit y) dts g1)) dts g hg (fun g1 hg1 _ hag => by
        have e2 : pS (fun d => al.testBit d) (fun d y => bv (12 * d + y)) g1 dts = pS (fun d => al.testBit d && !mb.testBit d) (fun d y => bv (12 * d + y)) g1 dts * pS (fun d => al.testBit d && mb.testBit d) (fun d y => bv (12 * d + y)) g1 dts := by
          unfold pS
          rw [← pr_mul]
          refine pr_congr (fun d _ => ?_)
          cases qO : mb.testBit d <;> cases qA : al.testBit d <;> simp [qO, qA]
        rw [e2, pS_ag (g := g) (g1 := g1) (A := fun d => al.testBit d && !mb.testBit d) (fun d _ q => hag d (by
          have q : (al.testBit d && !mb.testBit d) = true := q
          have : mb.testBit d = false := by cases qO : mb.testBit d with
            | false => rfl
            | true => rw [qO] at q; simp at q
          rw [this]; simp)), Nat.mul_assoc]), asum_mul, ph_in (im := fun d => mb.testBit d) (fun _ _ => trivial) (fun d _ => by
          rw [Bool.and_eq_true]
          exact ⟨fun q => ⟨q.2, q.2⟩, fun q => ⟨hM d q.1, q.1⟩⟩) hany hg, Nat.mul_comm]
      refine congr (congrArg HMul.hMul (sm_congr (fun p _ => ?_))) rfl
      by_cases q2 : cB (fun y => fs.testBit y) (fun y => ls.testBit y) p
      · rw [if_pos q2, if_pos q2, pr_ones (F := fun d => if (mb.testBit d && !mb.testBit d) = true then inB g p d else 1) (fun d _ => if_neg (by simp)), Nat.one_mul]
        refine pr_congr (fun d _ => ?_)
        by_cases q3 : mb.testBit d = true
        · rw [if_pos q3, if_pos (by rw [hM d q3, q3]; rfl)]
        · rw [if_neg q3, if_neg (fun q4 => q3 (by rw [Bool.and_eq_true] at q4; exact q4.2))]
      · rw [if_neg q2, if_neg q2]
    rw [asum_congr yOk_Z0 e1, asum_mul]
    have e3 := asum_prod (A := fun d => al.testBit d && !mb.testBit d) (F := fun d y => bv (12 * d + y)) dts Z0 yOk_Z0
    have e4 : asum (fun d => al.testBit d && !mb.testBit d) (fun g => pS (fun d => al.testBit d && !mb.testBit d) (fun d y => bv (12 * d + y)) g dts) dts Z0 = sR bv al mb dts := by
      rw [sR_pr]; exact e3
    rw [e4, sT_sm, ← sm_mulr]
    refine sm_congr (fun p _ => ?_)
    have e5 : ((mb = 0 ∧ p = 0) ∨ (mb ≠ 0 ∧ p / 12 ≤ p % 12 ∧ fs.testBit (p / 12) = true ∧ ls.testBit (p % 12) = true)) ↔ cB (fun y => fs.testBit y) (fun y => ls.testBit y) p := ⟨fun q2 => q2.elim (fun q3 => absurd q3.1 q) (fun q3 => q3.2), fun q2 => Or.inr ⟨q, q2⟩⟩
    by_cases q2 : cB (fun y => fs.testBit y) (fun y => ls.testBit y) p
    · rw [if_pos q2, if_pos (e5.mpr q2), sPn_pr, Nat.mul_comm]
    · rw [if_neg q2, if_neg (fun q3 => q2 (e5.mp q3)), Nat.zero_mul]
end
