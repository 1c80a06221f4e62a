/-! The reference's sum is the sum over all ways -/
theorem EE_congr {u v v1 le mo : Nat → Nat} {n nt : Nat} {A B R R1 : Nat → Bool} {S S1 : Nat → Nat → Nat} {φ : (Nat → Nat) → Nat} {f : Nat → Nat} (hf : yOk f) (hA : ∀ d, d < n → A d = B d) (hS : ∀ d y, d < n → A d = true → y < 12 → S d y = S1 d y) (hR : ∀ i, i < nt → R i = R1 i) (hv : ∀ i, i < nt → R i = true → v i = v1 i) : EE u v le mo n nt A S R φ f = EE u v1 le mo n nt B S1 R1 φ f := by
  unfold EE
  rw [asum_cA (B := B) n f hA]
  refine asum_congr hf (fun g hg => ?_)
  have e1 : pS A S g n = pS B S1 g n := pr_congr (fun d hd => by
    by_cases q : A d = true
    · rw [if_pos q, if_pos ((hA d hd).symm.trans q), hS d _ hd q (hg d)]
    · rw [if_neg q, if_neg (fun q2 => q ((hA d hd).trans q2))])
  have e2 : pR u v le mo R g nt = pR u v1 le mo R1 g nt := pr_congr (fun i hi => by
    by_cases q : R i = true
    · rw [if_pos q, if_pos ((hR i hi).symm.trans q)]
      unfold rk
      rw [hv i hi q]
    · rw [if_neg q, if_neg (fun q2 => q ((hR i hi).trans q2))])
  rw [e1, e2]
theorem max_ex {P : Nat → Prop} : ∀ N, (∃ j, j < N ∧ P j) → ∃ j, j < N ∧ P j ∧ ∀ t, j < t → t < N → ¬ P t := by
  intro N
  induction N with
  | zero => rintro ⟨j, h, _⟩; omega
  | succ N ih =>
    rintro ⟨j, h1, h2⟩
    by_cases q : P N
    · exact ⟨N, by omega, q, fun t a b => by omega⟩
    · have : j ≠ N := fun e => q (e ▸ h2)
      obtain ⟨j1, a1, a2, a3⟩ := ih ⟨j, by omega, h2⟩
      refine ⟨j1, by omega, a2, fun t b1 b2 => ?_⟩
      by_cases q2 : t = N
      · rw [q2]; exact q
      · exact a3 t b1 (by omega)
theorem sm_two {F : Nat → Nat} {n i k : Nat} (hi : i < n) (hk : k < n) (hne : i ≠ k) (h1 : 1 ≤ F i) (h2 : 1 ≤ F k) : 2 ≤ sm F n := by
  induction n with
  | zero => omega
  | succ n ih =>
    rw [sm_s]
    by_cases a : i = n
    · have := sm_ge (F := F) (n := n) (i := k) (by omega)
      subst a; omega
    · by_cases b : k = n
      · have := sm_ge (F := F) (n := n) (i := i) (by omega)
        subst b; omega
      · have := ih (by omega) (by omega)
        omega
theorem lfU_bit (cn9 : Nat) (on1 ot2 : Nat → Nat) (i : Nat) : ∀ n, (lfU cn9 on1 ot2 n).testBit i = true ↔ (i < n ∧ cn9.testBit i = true ∧ on1 i ≠ ot2 i) := by
  intro n
  induction n with
  | zero => show (0 : Nat).testBit i = true ↔ _; rw [Nat.zero_testBit]; exact ⟨fun h => (by cases h), fun h => (by omega)⟩
  | succ n ih =>
    by_cases q : cn9.testBit n = true ∧ on1 n ≠ ot2 n
    · rw [lfU_t q, Nat.testBit_or, Bool.or_eq_true, ih, Nat.testBit_two_pow]
      simp only [decide_eq_true_eq]
      constructor
      · rintro (h | h)
        · exact ⟨by omega, h.2⟩
        · subst h; exact ⟨by omega, q⟩
      · rintro ⟨h1, h2⟩
        by_cases q2 : n = i
        · exact Or.inr q2
        · exact Or.inl ⟨by omega, h2⟩
    · rw [lfU_f q, ih]
      constructor
      · rintro ⟨h1, h2⟩; exact ⟨by omega, h2⟩
      · rintro ⟨h1, h2⟩
        have : i ≠ n := fun e => q (e ▸ h2)
        exact ⟨by omega, h2⟩
theorem mbU_bit (cn9 : Nat) (on1 ot2 : Nat → Nat) (d : Nat) : ∀ n, (mbU cn9 on1 ot2 n).testBit d = true ↔ ∃ i, i < n ∧ cn9.testBit i = true ∧ on1 i = ot2 i ∧ on1 i = d := by
  intro n
  induction n with
  | zero => show (0 : Nat).testBit d = true ↔ _; rw [Nat.zero_testBit]; exact ⟨fun h => (by cases h), fun ⟨i, h, _⟩ => (by omega)⟩
  | succ n ih =>
    by_cases q : cn9.testBit n = true ∧ on1 n = ot2 n
    · rw [mbU_t q, Nat.testBit_or, Bool.or_eq_true, ih, Nat.testBit_two_pow]
      simp only [decide_eq_true_eq]
      constructor
      · rintro (⟨i, h1, h2⟩ | h)
        · exact ⟨i, by omega, h2⟩
        · exact ⟨n, by omega, q.1, q.2, h⟩
      · rintro ⟨i, h1, h2⟩
        by_cases q2 : i = n
        · subst q2; exact Or.inr h2.2.2
        · exact Or.inl ⟨i, by omega, h2⟩
    · rw [mbU_f q, ih]
      constructor
      · rintro ⟨i, h1, h2⟩; exact ⟨i, by omega, h2⟩
      · rintro ⟨i, h1, h2⟩
        have : i ≠ n := fun e => q (by subst e; exact ⟨h2.1, h2.2.1⟩)
        exact ⟨i, by omega, h2⟩
/-- the reference's telling, as the class has it -/
abbrev mtt (on1 ot2 : Nat → Nat) (i : Nat) : Option Nat := if on1 i = ot2 i then none else some (ot2 i)
theorem mtt_n {on1 ot2 : Nat → Nat} {i : Nat} : mtt on1 ot2 i = none ↔ on1 i = ot2 i := by
  unfold mtt
  by_cases q : on1 i = ot2 i
  · rw [if_pos q]; exact ⟨fun _ => q, fun _ => rfl⟩
  · rw [if_neg q]; exact ⟨fun h => (by cases h), fun h => absurd h q⟩
theorem mtt_s {on1 ot2 : Nat → Nat} {i e : Nat} : mtt on1 ot2 i = some e ↔ (on1 i ≠ ot2 i ∧ ot2 i = e) := by
  unfold mtt
  by_cases q : on1 i = ot2 i
  · rw [if_pos q]; exact ⟨fun h => (by cases h), fun h => absurd q h.1⟩
  · rw [if_neg q]; exact ⟨fun h => ⟨q, Option.some.inj h⟩, fun h => by rw [h.2]⟩
section
variable {on1 ot2 lea mos : Nat → Nat} {tld dts cn9 : Nat}
/-- every date's lot in the reference's taking -/
abbrev JJ (on1 ot2 lea mos : Nat → Nat) (tld dts cn9 : Nat) (o0 o1 : Nat → Bool) (bv0 : Nat → Nat) (T lf : Nat) (bv : Nat → Nat) (al : Nat) : Prop :=
  (EE on1 ot2 lea mos dts tld (fun d => al.testBit d) (fun d y => bv (12 * d + y)) (fun i => lf.testBit i) (phi (fun d => (mbU cn9 on1 ot2 tld).testBit d) o0 o1 dts) Z0 = T) ∧
  (∀ i, lf.testBit i = true → (lfU cn9 on1 ot2 tld).testBit i = true) ∧
  (lf ≤ lfU cn9 on1 ot2 tld) ∧
  (al ≤ 2 ^ dts - 1) ∧
  (∀ i, lf.testBit i = true → al.testBit (on1 i) = true ∧ al.testBit (ot2 i) = true) ∧
  (∀ d, (mbU cn9 on1 ot2 tld).testBit d = true → al.testBit d = true) ∧
  (∀ x, 72 < x → bv x = bv0 x)
theorem JJ.E {on1 ot2 lea mos : Nat → Nat} {tld dts cn9 : Nat} {o0 o1 : Nat → Bool} {bv0 : Nat → Nat} {T lf : Nat} {bv : Nat → Nat} {al : Nat} (h : JJ on1 ot2 lea mos tld dts cn9 o0 o1 bv0 T lf bv al) : EE on1 ot2 lea mos dts tld (fun d => al.testBit d) (fun d y => bv (12 * d + y)) (fun i => lf.testBit i) (phi (fun d => (mbU cn9 on1 ot2 tld).testBit d) o0 o1 dts) Z0 = T := h.1
theorem JJ.L {on1 ot2 lea mos : Nat → Nat} {tld dts cn9 : Nat} {o0 o1 : Nat → Bool} {bv0 : Nat → Nat} {T lf : Nat} {bv : Nat → Nat} {al : Nat} (h : JJ on1 ot2 lea mos tld dts cn9 o0 o1 bv0 T lf bv al) : ∀ i, lf.testBit i = true → (lfU cn9 on1 ot2 tld).testBit i = true := h.2.1
theorem JJ.Ll {on1 ot2 lea mos : Nat → Nat} {tld dts cn9 : Nat} {o0 o1 : Nat → Bool} {bv0 : Nat → Nat} {T lf : Nat} {bv : Nat → Nat} {al : Nat} (h : JJ on1 ot2 lea mos tld dts cn9 o0 o1 bv0 T lf bv al) : lf ≤ lfU cn9 on1 ot2 tld := h.2.2.1
theorem JJ.Al {on1 ot2 lea mos : Nat → Nat} {tld dts cn9 : Nat} {o0 o1 : Nat → Bool} {bv0 : Nat → Nat} {T lf : Nat} {bv : Nat → Nat} {al : Nat} (h : JJ on1 ot2 lea mos tld dts cn9 o0 o1 bv0 T lf bv al) : al ≤ 2 ^ dts - 1 := h.2.2.2.1
theorem JJ.B {on1 ot2 lea mos : Nat → Nat} {tld dts cn9 : Nat} {o0 o1 : Nat → Bool} {bv0 : Nat → Nat} {T lf : Nat} {bv : Nat → Nat} {al : Nat} (h : JJ on1 ot2 lea mos tld dts cn9 o0 o1 bv0 T lf bv al) : ∀ i, lf.testBit i = true → al.testBit (on1 i) = true ∧ al.testBit (ot2 i) = true := h.2.2.2.2.1
theorem JJ.M {on1 ot2 lea mos : Nat → Nat} {tld dts cn9 : Nat} {o0 o1 : Nat → Bool} {bv0 : Nat → Nat} {T lf : Nat} {bv : Nat → Nat} {al : Nat} (h : JJ on1 ot2 lea mos tld dts cn9 o0 o1 bv0 T lf bv al) : ∀ d, (mbU cn9 on1 ot2 tld).testBit d = true → al.testBit d = true := h.2.2.2.2.2.1
theorem JJ.P {on1 ot2 lea mos : Nat → Nat} {tld dts cn9 : Nat} {o0 o1 : Nat → Bool} {bv0 : Nat → Nat} {T lf : Nat} {bv : Nat → Nat} {al : Nat} (h : JJ on1 ot2 lea mos tld dts cn9 o0 o1 bv0 T lf bv al) : ∀ x, 72 < x → bv x = bv0 x := h.2.2.2.2.2.2
theorem JJ.take (hd6 : dts ≤ 6) (hT : TN on1 (mtt on1 ot2) tld dts) {o0 o1 : Nat → Bool} {bv0 : Nat → Nat} {T lf : Nat} {bv : Nat → Nat} {al k f m1 : Nat} (h : JJ on1 ot2 lea mos tld dts cn9 o0 o1 bv0 T lf bv al) (hf : fnd on1 ot2 (mbU cn9 on1 ot2 tld) tld lf k f) : JJ on1 ot2 lea mos tld dts cn9 o0 o1 bv0 T (clb lf (2 ^ k)) (va_up (tkB on1 ot2 lea mos bv k f 12) 72 m1) (clb al (2 ^ f)) := by
  obtain ⟨hk, hb, hlf⟩ := hf
  obtain ⟨-, -, hrow⟩ := (lfU_bit cn9 on1 ot2 k tld).mp (h.L k hb)
  have hL : isLf on1 ot2 (mbU cn9 on1 ot2 tld) tld lf f ∧ (f = on1 k ∨ f = ot2 k) := by
    rcases hlf with ⟨a, b⟩ | ⟨_, a, b⟩
    · exact ⟨b ▸ a, Or.inl b⟩
    · exact ⟨b ▸ a, Or.inr b⟩
  obtain ⟨⟨hr1, hmf⟩, hfk⟩ := hL
  have hlt : on1 k < dts ∧ ot2 k < dts := ⟨(hT k hk).1, ((hT k hk).2 (ot2 k) (mtt_s.mpr ⟨hrow, rfl⟩)).1⟩
  have hfree : ∀ i, i < tld → lf.testBit i = true → i ≠ k → on1 i ≠ f ∧ ot2 i ≠ f := by
    intro i hi hbi hne
    have hno : ¬ (on1 i = f ∨ ot2 i = f) := fun q => by
      have := sm_two (F := fun k => if lf.testBit k = true ∧ (on1 k = f ∨ ot2 k = f) then 1 else 0) hi hk hne (by rw [if_pos ⟨hbi, q⟩]; exact Nat.le_refl _) (by rw [if_pos ⟨hb, hfk.elim (fun q => Or.inl q.symm) (fun q => Or.inr q.symm)⟩]; exact Nat.le_refl _)
      unfold rO at hr1
      omega
    exact ⟨fun q => hno (Or.inl q), fun q => hno (Or.inr q)⟩
  have hte : tkT on1 ot2 k f < dts ∧ f < dts ∧ f ≠ tkT on1 ot2 k f ∧ ((on1 k = f ∧ ot2 k = tkT on1 ot2 k f) ∨ (on1 k = tkT on1 ot2 k f ∧ ot2 k = f)) := by
    unfold tkT
    by_cases q : on1 k = f
    · rw [if_pos q]; exact ⟨hlt.2, q ▸ hlt.1, fun q2 => hrow (q.trans q2), Or.inl ⟨q, rfl⟩⟩
    · have q2 : f = ot2 k := hfk.elim (fun q3 => absurd q3.symm q) id
      rw [if_neg q]; exact ⟨hlt.1, q2 ▸ hlt.2, fun q3 => q q3.symm, Or.inr ⟨rfl, q2.symm⟩⟩
  obtain ⟨t1, t2, t3, t4⟩ := hte
  have hal : al.testBit f = true ∧ al.testBit (tkT on1 ot2 k f) = true := by
    obtain ⟨b1, b2⟩ := h.B k hb
    rcases t4 with ⟨a, b⟩ | ⟨a, b⟩
    · rw [← b, ← a]; exact ⟨b1, b2⟩
    · rw [← a]; exact ⟨b ▸ b2, b1⟩
  refine ⟨?_, fun i hi => ?_, Nat.le_trans (clb_le _ _) h.Ll, Nat.le_trans (clb_le _ _) h.Al, fun i hi => ?_, fun d hd => ?_, fun x hx => ?_⟩
  · rw [← h.E]
    have e := EE_take (le := lea) (mo := mos) (S := fun d y => bv (12 * d + y)) (S1 := fun d y => va_up (tkB on1 ot2 lea mos bv k f 12) 72 m1 (12 * d + y)) (A := fun d => al.testBit d) (R := fun i => lf.testBit i) (φ := phi (fun d => (mbU cn9 on1 ot2 tld).testBit d) o0 o1 dts) yOk_Z0 t2 hal.1 t1 hal.2 t3 hk hb t4 hfree (fun g y _ _ => phi_up hmf) (fun z hz => ?_) (fun x hx _ h1 h2 z hz => ?_)
    · rw [e]
      refine EE_congr yOk_Z0 (fun d _ => ?_) (fun _ _ _ _ _ => rfl) (fun i _ => ?_) (fun _ _ _ => rfl)
      · rw [clb_bit]
        by_cases q : d = f
        · rw [q, va_up_self]; simp
        · rw [va_up_ne _ _ q]; simp [q]
      · rw [clb_bit]
        by_cases q : i = k
        · rw [q, va_up_self]; simp
        · rw [va_up_ne _ _ q]; simp [q]
    · show va_up _ 72 m1 _ = _
      rw [va_up_ne _ _ (by omega)]
      unfold tkB
      rw [if_pos (by omega), show 12 * tkT on1 ot2 k f + z - 12 * tkT on1 ot2 k f = z by omega]
      rfl
    · show va_up _ 72 m1 _ = _
      rw [va_up_ne _ _ (by omega)]
      unfold tkB
      rw [if_neg (by omega)]
  · rw [clb_bit] at hi
    simp at hi
    exact h.L i hi.1
  · rw [clb_bit] at hi
    simp at hi
    obtain ⟨b1, b2⟩ := h.B i hi.1
    obtain ⟨f1, f2⟩ := hfree i ((lfU_bit cn9 on1 ot2 i tld).mp (h.L i hi.1)).1 hi.1 hi.2
    rw [clb_bit, clb_bit, b1, b2]
    simp [f1, f2]
  · rw [clb_bit, h.M d hd]
    have : d ≠ f := fun q => by rw [q, hmf] at hd; cases hd
    simp [this]
  · rw [va_up_ne _ _ (by omega), ← h.P x hx]
    unfold tkB
    rw [if_neg (by omega)]
/-- a leaf is found -/
theorem JJ.leaf (hd6 : dts ≤ 6) (hT : TN on1 (mtt on1 ot2) tld dts) (hF : FST on1 (mtt on1 ot2) tld) {o0 o1 : Nat → Bool} {bv0 : Nat → Nat} {T lf : Nat} {bv : Nat → Nat} {al : Nat} (h : JJ on1 ot2 lea mos tld dts cn9 o0 o1 bv0 T lf bv al) (h0 : lf ≠ 0) : ∃ k, k < tld ∧ lf.testBit k = true ∧ (isLf on1 ot2 (mbU cn9 on1 ot2 tld) tld lf (on1 k) ∨ isLf on1 ot2 (mbU cn9 on1 ot2 tld) tld lf (ot2 k)) := by
  obtain ⟨i0, hi0⟩ := Nat.exists_testBit_of_ne_zero h0
  obtain ⟨hi0t, -, -⟩ := (lfU_bit cn9 on1 ot2 i0 tld).mp (h.L i0 hi0)
  have hdp : 0 < dts := Nat.lt_of_le_of_lt (Nat.zero_le _) (hT i0 hi0t).1
  obtain ⟨nf, hnf⟩ : ∃ nf : Nat → Bool, ∀ i, nf i = true ↔ (lf.testBit i = true ∨ (cn9.testBit i = true ∧ on1 i = ot2 i)) := ⟨fun i => lf.testBit i || (cn9.testBit i && decide (on1 i = ot2 i)), fun i => by simp⟩
  obtain ⟨x, hx, hxm⟩ : ∃ x, x < dts ∧ ∀ d, (mbU cn9 on1 ot2 tld).testBit d = true → (mbU cn9 on1 ot2 tld).testBit x = true := by
    by_cases q : ∃ d, (mbU cn9 on1 ot2 tld).testBit d = true
    · obtain ⟨d, hd⟩ := q
      obtain ⟨i, h1, h2, h3, h4⟩ := (mbU_bit cn9 on1 ot2 d tld).mp hd
      exact ⟨d, h4 ▸ (hT i h1).1, fun _ _ => hd⟩
    · exact ⟨0, hdp, fun d hd => absurd ⟨d, hd⟩ q⟩
  have hO := ord_FO (nf := nf) hd6 hT hF (((fun _ => false), (fun _ => none), (fun _ => none), (fun _ => 0), 0) : KQ) hx
  generalize ordK on1 (mtt on1 ot2) nf tld (((fun _ => false), (fun _ => none), (fun _ => none), (fun _ => 0), 0) : KQ) x dts = K at hO
  generalize (ordH on1 (mtt on1 ot2) nf tld (((fun _ => false), (fun _ => none), (fun _ => none), (fun _ => 0), 0) : KQ) x).2.2.2.2 = hm at hO
  have hmem : ∀ d, (mbU cn9 on1 ot2 tld).testBit d = true → ∃ i, i < tld ∧ memO on1 (mtt on1 ot2) nf i = some d := fun d hd => by
    obtain ⟨i, h1, h2, h3, h4⟩ := (mbU_bit cn9 on1 ot2 d tld).mp hd
    exact ⟨i, h1, memO_iff.mpr ⟨(hnf i).mpr (Or.inr ⟨h2, h3⟩), mtt_n.mpr h3, h4⟩⟩
  have hmp : ∀ j, j < dts → (mbU cn9 on1 ot2 tld).testBit (K.2.2.2.1 j) = true → K.2.1 (K.2.2.2.1 j) = none := fun j hj hb => by
    obtain ⟨i, hi, hmo⟩ := hmem _ hb
    by_cases q : hm ≤ j
    · exact hO.mem i j hi q hj hmo
    · obtain ⟨i2, hi2, hmo2⟩ := hmem _ (hxm _ hb)
      have := hO.one i i2 j 0 hi hi2 (by omega) (by omega) hmo (by rw [hO.r0.1]; exact hmo2)
      rw [this, hO.r0.1]; exact hO.r0.2
  have hch : ∀ i, lf.testBit i = true → ∃ j p, j < dts ∧ K.2.1 (K.2.2.2.1 j) = some p ∧ K.2.2.1 (K.2.2.2.1 j) = some i := fun i hi => by
    obtain ⟨h1, h2, h3⟩ := (lfU_bit cn9 on1 ot2 i tld).mp (h.L i hi)
    exact hO.ch i (ot2 i) h1 ((hnf i).mpr (Or.inl hi)) (mtt_s.mpr ⟨h3, rfl⟩)
  obtain ⟨j, hj, ⟨i, hi, p, hp, hr⟩, hmax⟩ := max_ex (P := fun j => ∃ i, lf.testBit i = true ∧ ∃ p, K.2.1 (K.2.2.2.1 j) = some p ∧ K.2.2.1 (K.2.2.2.1 j) = some i) dts (by
    obtain ⟨j, p, h1, h2, h3⟩ := hch i0 hi0
    exact ⟨j, h1, i0, hi0, p, h2, h3⟩)
  obtain ⟨hit, -, hrow⟩ := (lfU_bit cn9 on1 ot2 i tld).mp (h.L i hi)
  have hen : ∀ i j p, lf.testBit i = true → j < dts → K.2.1 (K.2.2.2.1 j) = some p → K.2.2.1 (K.2.2.2.1 j) = some i → (∃ j1, j1 < j ∧ K.2.2.2.1 j1 = p) ∧ ((on1 i = K.2.2.2.1 j ∧ ot2 i = p) ∨ (on1 i = p ∧ ot2 i = K.2.2.2.1 j)) := fun i j p hi hj hp hr => by
    obtain ⟨h1, h2, h3⟩ := (lfU_bit cn9 on1 ot2 i tld).mp (h.L i hi)
    obtain ⟨j1, hj1, he, i1, hi1, hr1, ho⟩ := hO.pa j hj p hp
    rw [hr] at hr1
    cases hr1
    have e : xv (mtt on1 ot2) i = ot2 i := by
      show (mtt on1 ot2 i).getD 0 = _
      rw [mtt_s.mpr ⟨h3, rfl⟩]; rfl
    have := (oth_ends ho).1
    rw [e] at this
    exact ⟨⟨j1, hj1, he⟩, this⟩
  have hlf : isLf on1 ot2 (mbU cn9 on1 ot2 tld) tld lf (K.2.2.2.1 j) := by
    refine ⟨?_, ?_⟩
    · unfold rO
      obtain ⟨⟨j1, hj1, he1⟩, hends⟩ := hen i j p hi hj hp hr
      rw [sm_one hit (fun i2 hi2 hne => if_neg (fun q => hne ?_)), if_pos ⟨hi, hends.elim (fun q => Or.inl q.1) (fun q => Or.inr q.2)⟩]
      obtain ⟨j2, p2, a1, a2, a3⟩ := hch i2 q.1
      obtain ⟨⟨j3, b1, b2⟩, b3⟩ := hen i2 j2 p2 q.1 a1 a2 a3
      have hd : K.2.2.2.1 j = K.2.2.2.1 j2 ∨ K.2.2.2.1 j = p2 := by
        rcases b3 with ⟨c1, c2⟩ | ⟨c1, c2⟩ <;> rcases q.2 with c | c
        · exact Or.inl (c.symm.trans c1)
        · exact Or.inr (c.symm.trans c2)
        · exact Or.inr (c.symm.trans c1)
        · exact Or.inl (c.symm.trans c2)
      rcases hd with hd | hd
      · have := hO.inj j j2 hj a1 hd
        subst this
        rw [a3] at hr
        exact Option.some.inj hr
      · have := hO.inj j3 j (by omega) hj (b2.trans hd.symm)
        exact absurd ⟨i2, q.1, p2, a2, a3⟩ (hmax j2 (by omega) a1)
    · cases q : (mbU cn9 on1 ot2 tld).testBit (K.2.2.2.1 j) with
      | false => rfl
      | true => have := hmp j hj q; rw [hp] at this; cases this
  refine ⟨i, hit, hi, ?_⟩
  rcases (hen i j p hi hj hp hr).2 with ⟨a, b⟩ | ⟨a, b⟩
  · rw [a]; exact Or.inl hlf
  · rw [b]; exact Or.inr hlf
end
