/-! A forest stays a forest; no more is told than there are dates -/
section
variable {fr : Nat → Nat} {tt : Nat → Option Nat} {nt N : Nat}
theorem nconn {a b : Nat} (h : ¬ conn fr tt nt a b) : ∃ c, rkept fr tt nt c ∧ c a ≠ c b := Classical.byContradiction (fun q => h (fun c hc => Classical.byContradiction (fun q2 => q ⟨c, hc, q2⟩)))
/-- a cut turned over on a tree -/
theorem flip (r : Nat) {c : Nat → Bool} (hc : ∀ i e, i < nt → i ≠ r → tt i = some e → c (fr i) = c e) (x : Nat) : ∃ c1 : Nat → Bool, (∀ i e, i < nt → i ≠ r → tt i = some e → c1 (fr i) = c1 e) ∧ (∀ d, conn fr tt nt x d → c1 d = !c d) ∧ (∀ d, ¬ conn fr tt nt x d → c1 d = c d) := by
  classical
  refine ⟨fun d => if conn fr tt nt x d then !c d else c d, fun i e hi hne he => ?_, fun d hd => if_pos hd, fun d hd => if_neg hd⟩
  have h1 : conn fr tt nt (fr i) e := fun c hc => hc i e hi he
  show (if conn fr tt nt x (fr i) then !c (fr i) else c (fr i)) = (if conn fr tt nt x e then !c e else c e)
  rw [hc i e hi hne he]
  by_cases q : conn fr tt nt x e
  · rw [if_pos q, if_pos (q.tr h1.sym)]
  · rw [if_neg q, if_neg (fun q2 => q (q2.tr h1))]
theorem bflip {a b : Bool} (h : a ≠ b) : (!a) = b ∧ (!b) = a := by cases a <;> cases b <;> simp_all
/-- the told with one more -/
theorem up_lt {α : Type} {f : Nat → α} {n i : Nat} {v : α} (h : i < n) : va_up f n v i = f i := va_up_ne _ _ (by omega)
theorem FST.tellRow (h : FST fr tt nt) {a b : Nat} (hab : ¬ conn fr tt nt a b) (hmm : ¬ ((∃ i, i < nt ∧ tt i = none ∧ conn fr tt nt a (fr i)) ∧ (∃ i, i < nt ∧ tt i = none ∧ conn fr tt nt b (fr i)))) : FST (va_up fr nt a) (va_up tt nt (some b)) (nt + 1) := by
  have hk : ∀ (c : Nat → Bool) (r : Nat), (∀ i e, i < nt → i ≠ r → tt i = some e → c (fr i) = c e) → (r = nt ∨ c a = c b) → ∀ i e, i < nt + 1 → i ≠ r → va_up tt nt (some b) i = some e → c (va_up fr nt a i) = c e := by
    intro c r hc hr i e hi hne he
    by_cases q : i = nt
    · subst q
      rw [va_up_self] at he
      rw [va_up_self]
      cases he
      exact hr.elim (fun q2 => absurd q2.symm hne) id
    · rw [up_lt (by omega)] at he
      rw [up_lt (by omega)]
      exact hc i e (by omega) hne he
  constructor
  · intro r b0 hr hb0
    by_cases q : r = nt
    · subst q
      rw [va_up_self] at hb0
      cases hb0
      obtain ⟨c, h1, h2⟩ := nconn hab
      refine ⟨c, by rw [va_up_self]; exact h2, hk c r (fun i e hi _ he => h1 i e hi he) (Or.inl rfl)⟩
    · rw [up_lt (by omega)] at hb0
      rw [up_lt (show r < nt by omega)]
      obtain ⟨c, h1, h2⟩ := h.row r b0 (by omega) hb0
      by_cases q2 : c a = c b
      · exact ⟨c, h1, hk c r h2 (Or.inr q2)⟩
      · obtain ⟨c1, g1, g2, g3⟩ := flip r h2 b
        have hrb : conn fr tt nt (fr r) b0 := fun c hc => hc r b0 (by omega) hb0
        refine ⟨c1, ?_, hk c1 r g1 (Or.inr ?_)⟩
        · by_cases q3 : conn fr tt nt b (fr r)
          · rw [g2 _ q3, g2 _ (q3.tr hrb)]
            exact fun e => h1 (by cases q4 : c (fr r) <;> cases q5 : c b0 <;> simp_all)
          · rw [g3 _ q3, g3 _ (fun q4 => q3 (q4.tr hrb.sym))]
            exact h1
        · rw [g2 b (fun _ _ => rfl), g3 a (fun q3 => hab q3.sym)]
          exact (bflip q2).2.symm
  · intro r s hr hs hne hr0 hs0
    have hrn : r < nt := by
      have : r ≠ nt := fun e => by rw [e, va_up_self] at hr0; cases hr0
      omega
    have hsn : s < nt := by
      have : s ≠ nt := fun e => by rw [e, va_up_self] at hs0; cases hs0
      omega
    rw [up_lt hrn] at hr0 ⊢
    rw [up_lt hsn] at hs0 ⊢
    obtain ⟨c, h1, h2⟩ := h.mem r s hrn hsn hne hr0 hs0
    have hfin : ∀ c1 : Nat → Bool, c1 (fr r) ≠ c1 (fr s) → (∀ i e, i < nt → i ≠ nt + 1 → tt i = some e → c1 (fr i) = c1 e) → c1 a = c1 b → ∃ c : Nat → Bool, c (fr r) ≠ c (fr s) ∧ ∀ i e, i < nt + 1 → va_up tt nt (some b) i = some e → c (va_up fr nt a i) = c e := fun c1 e1 e2 e3 => ⟨c1, e1, fun i e hi he => hk c1 (nt + 1) e2 (Or.inr e3) i e hi (by omega) he⟩
    have h2' : ∀ i e, i < nt → i ≠ nt + 1 → tt i = some e → c (fr i) = c e := fun i e hi _ he => h2 i e hi he
    by_cases q2 : c a = c b
    · exact hfin c h1 h2' q2
    · by_cases q3 : ∃ i, i < nt ∧ tt i = none ∧ conn fr tt nt b (fr i)
      · have q4 : ¬ ∃ i, i < nt ∧ tt i = none ∧ conn fr tt nt a (fr i) := fun q4 => hmm ⟨q4, q3⟩
        obtain ⟨c1, g1, g2, g3⟩ := flip (nt + 1) h2' a
        refine hfin c1 ?_ g1 ?_
        · rw [g3 _ (fun q => q4 ⟨r, hrn, hr0, q⟩), g3 _ (fun q => q4 ⟨s, hsn, hs0, q⟩)]; exact h1
        · rw [g2 a (fun _ _ => rfl), g3 b hab]; exact (bflip q2).1
      · obtain ⟨c1, g1, g2, g3⟩ := flip (nt + 1) h2' b
        refine hfin c1 ?_ g1 ?_
        · rw [g3 _ (fun q => q3 ⟨r, hrn, hr0, q⟩), g3 _ (fun q => q3 ⟨s, hsn, hs0, q⟩)]; exact h1
        · rw [g2 b (fun _ _ => rfl), g3 a (fun q => hab q.sym)]; exact (bflip q2).2.symm
theorem FST.tellMem (h : FST fr tt nt) {a : Nat} (hm : ¬ ∃ i, i < nt ∧ tt i = none ∧ conn fr tt nt a (fr i)) : FST (va_up fr nt a) (va_up tt nt none) (nt + 1) := by
  have hk : ∀ (c : Nat → Bool) (r : Nat), (∀ i e, i < nt → i ≠ r → tt i = some e → c (fr i) = c e) → ∀ i e, i < nt + 1 → i ≠ r → va_up tt nt none i = some e → c (va_up fr nt a i) = c e := by
    intro c r hc i e hi hne he
    have : i ≠ nt := fun q => by rw [q, va_up_self] at he; cases he
    rw [up_lt (by omega)] at he ⊢
    exact hc i e (by omega) hne he
  constructor
  · intro r b0 hr hb0
    have hrn : r < nt := by
      have : r ≠ nt := fun e => by rw [e, va_up_self] at hb0; cases hb0
      omega
    rw [up_lt hrn] at hb0 ⊢
    obtain ⟨c, h1, h2⟩ := h.row r b0 hrn hb0
    exact ⟨c, h1, hk c r h2⟩
  · have hone : ∀ s, s < nt → tt s = none → ∃ c : Nat → Bool, c a ≠ c (fr s) ∧ rkept fr tt nt c := fun s hs hs0 => by
      obtain ⟨c, h1, h2⟩ := nconn (fun q => hm ⟨s, hs, hs0, q⟩)
      exact ⟨c, h2, h1⟩
    intro r s hr hs hne hr0 hs0
    have hfin : ∀ c : Nat → Bool, rkept fr tt nt c → ∀ i e, i < nt + 1 → va_up tt nt none i = some e → c (va_up fr nt a i) = c e := fun c hc i e hi he => hk c (nt + 1) (fun i e hi _ he => hc i e hi he) i e hi (by omega) he
    by_cases q : r = nt
    · have hsn : s < nt := by omega
      rw [up_lt hsn] at hs0
      obtain ⟨c, h1, h2⟩ := hone s hsn hs0
      exact ⟨c, by rw [q, va_up_self, up_lt hsn]; exact h1, hfin c h2⟩
    · have hrn : r < nt := by omega
      rw [up_lt hrn] at hr0
      by_cases q2 : s = nt
      · obtain ⟨c, h1, h2⟩ := hone r hrn hr0
        exact ⟨c, by rw [q2, va_up_self, up_lt hrn]; exact fun e => h1 e.symm, hfin c h2⟩
      · have hsn : s < nt := by omega
        rw [up_lt hsn] at hs0
        obtain ⟨c, h1, h2⟩ := h.mem r s hrn hsn hne hr0 hs0
        exact ⟨c, by rw [up_lt hrn, up_lt hsn]; exact h1, hfin c h2⟩
theorem TN.tell (h : TN fr tt nt N) {a : Nat} {o : Option Nat} (ha : a < N) (ho : ∀ b, o = some b → b < N ∧ b ≠ a) : TN (va_up fr nt a) (va_up tt nt o) (nt + 1) N := by
  intro i hi
  by_cases q : i = nt
  · rw [q, va_up_self, va_up_self]; exact ⟨ha, ho⟩
  · rw [up_lt (by omega), up_lt (by omega)]; exact h i (by omega)
theorem TN.le {M : Nat} (h : TN fr tt nt N) (hM : N ≤ M) : TN fr tt nt M := fun i hi => ⟨Nat.lt_of_lt_of_le (h i hi).1 hM, fun e he => ⟨Nat.lt_of_lt_of_le ((h i hi).2 e he).1 hM, ((h i hi).2 e he).2⟩⟩
/-- no more is told than there are dates -/
theorem FST.le (hN : N ≤ 6) (hT : TN fr tt nt N) (hF : FST fr tt nt) : nt ≤ N := by
  rcases Nat.eq_zero_or_pos nt with q0 | q0
  · omega
  obtain ⟨x, hx, hxm⟩ : ∃ x, x < N ∧ ∀ i, i < nt → tt i = none → ∃ i2, i2 < nt ∧ tt i2 = none ∧ fr i2 = x := by
    by_cases q : ∃ i, i < nt ∧ tt i = none
    · obtain ⟨i, h1, h2⟩ := q
      exact ⟨fr i, (hT i h1).1, fun _ _ _ => ⟨i, h1, h2, rfl⟩⟩
    · exact ⟨fr 0, (hT 0 q0).1, fun i h1 h2 => absurd ⟨i, h1, h2⟩ q⟩
  have hO := ord_FO (nf := fun _ => true) hN hT hF (((fun _ => false), (fun _ => none), (fun _ => none), (fun _ => 0), 0) : KQ) hx
  generalize ordK fr tt (fun _ => true) nt (((fun _ => false), (fun _ => none), (fun _ => none), (fun _ => 0), 0) : KQ) x N = K at hO
  generalize (ordH fr tt (fun _ => true) nt (((fun _ => false), (fun _ => none), (fun _ => none), (fun _ => 0), 0) : KQ) x).2.2.2.2 = hm at hO
  -- each told i has its own date: a row its child, a member its date
  have hp : ∀ i, ∃ j, i < nt → (j < N ∧ ((∃ p, K.2.1 (K.2.2.2.1 j) = some p ∧ K.2.2.1 (K.2.2.2.1 j) = some i) ∨ (tt i = none ∧ fr i = K.2.2.2.1 j ∧ K.2.1 (K.2.2.2.1 j) = none))) := fun i => by
    by_cases hi : i < nt
    · cases ht : tt i with
      | some e =>
        obtain ⟨j, p, h1, h2, h3⟩ := hO.ch i e hi rfl ht
        exact ⟨j, fun _ => ⟨h1, Or.inl ⟨p, h2, h3⟩⟩⟩
      | none =>
        obtain ⟨j, h1, h2⟩ := hO.ex (fr i) (hT i hi).1
        have hmo : memO fr tt (fun _ => true) i = some (K.2.2.2.1 j) := memO_iff.mpr ⟨rfl, ht, h2.symm⟩
        refine ⟨j, fun _ => ⟨h1, Or.inr ⟨rfl, h2.symm, ?_⟩⟩⟩
        by_cases q : hm ≤ j
        · exact hO.mem i j hi q h1 hmo
        · obtain ⟨i2, g1, g2, g3⟩ := hxm i hi ht
          have := hO.one i i2 j 0 hi g1 (by omega) (by have := hO.h1; omega) hmo (memO_iff.mpr ⟨rfl, g2, by rw [hO.r0.1]; exact g3⟩)
          rw [this, hO.r0.1]; exact hO.r0.2
    · exact ⟨0, fun h => absurd h hi⟩
  refine pigeon (f := fun i => Classical.choose (hp i)) (fun i hi => (Classical.choose_spec (hp i) hi).1) (fun i j hi hj e => ?_)
  have e : Classical.choose (hp i) = Classical.choose (hp j) := e
  obtain ⟨-, a1⟩ := Classical.choose_spec (hp i) hi
  obtain ⟨-, a2⟩ := Classical.choose_spec (hp j) hj
  rw [← e] at a2
  rcases a1 with ⟨p, b1, b2⟩ | ⟨b1, b2, b3⟩ <;> rcases a2 with ⟨p2, d1, d2⟩ | ⟨d1, d2, d3⟩
  · rw [d2] at b2; exact (Option.some.inj b2).symm
  · rw [d3] at b1; cases b1
  · rw [b3] at d1; cases d1
  · refine Classical.byContradiction (fun q => ?_)
    obtain ⟨c, h1, -⟩ := hF.mem i j hi hj q b1 d1
    exact h1 (by rw [b2, d2])
end
