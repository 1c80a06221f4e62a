/-! Trees: joined dates, the names, the reference's masks -/
def conn (fr : Nat → Nat) (tt : Nat → Option Nat) (nt d e : Nat) : Prop := ∀ c, rkept fr tt nt c → c d = c e
theorem conn.sym {fr : Nat → Nat} {tt : Nat → Option Nat} {nt d e : Nat} (h : conn fr tt nt d e) : conn fr tt nt e d := fun c hc => (h c hc).symm
theorem conn.tr {fr : Nat → Nat} {tt : Nat → Option Nat} {nt d e x : Nat} (h : conn fr tt nt d e) (h2 : conn fr tt nt e x) : conn fr tt nt d x := fun c hc => (h c hc).trans (h2 c hc)
section
variable {fr : Nat → Nat} {tt : Nat → Option Nat} {nt N : Nat}
theorem nmT_spec (hT : TN fr tt nt N) (hN : N ≤ 6) (t : Nat → Nat) : ∀ n, n ≤ nt → (∀ i e, i < n → tt i = some e → nmT fr tt t n (fr i) = nmT fr tt t n e) ∧ (∀ d e, d < 6 → e < 6 → nmT fr tt t n d = nmT fr tt t n e → conn fr tt n d e) := by
  intro n
  induction n with
  | zero =>
    intro _
    refine ⟨fun i e hi => by omega, fun d e hd he h => ?_⟩
    have h : upto 6 (fun d => d) t d = upto 6 (fun d => d) t e := h
    rw [upto_lt _ _ hd, upto_lt _ _ he] at h
    subst h
    exact fun c _ => rfl
  | succ n ih =>
    intro hn
    obtain ⟨h1, h2⟩ := ih (by omega)
    have hup : ∀ d e, conn fr tt n d e → conn fr tt (n + 1) d e := fun d e h c hc => h c (fun i e hi he => hc i e (by omega) he)
    cases q : tt n with
    | none =>
      rw [nmT_none q]
      refine ⟨fun i e hi he => ?_, fun d e hd he h => hup d e (h2 d e hd he h)⟩
      have : i ≠ n := fun e => by rw [e, q] at he; cases he
      exact h1 i e (by omega) he
    | some x =>
      rw [nmT_some q]
      have hr : ∀ d, d < 6 → renT (nmT fr tt t n) (nmT fr tt t n (fr n)) (nmT fr tt t n x) d = if nmT fr tt t n d = nmT fr tt t n (fr n) then nmT fr tt t n x else nmT fr tt t n d := fun d hd => by
        unfold renT
        rw [upto_lt _ _ hd]
        rfl
      have hn1 := (hT n (by omega)).1
      have hn2 := ((hT n (by omega)).2 x q).1
      refine ⟨fun i e hi he => ?_, fun d e hd he h => ?_⟩
      · have hi1 := (hT i (by omega)).1
        have hi2 := ((hT i (by omega)).2 e he).1
        rw [hr _ (by omega), hr _ (by omega)]
        by_cases q2 : i = n
        · subst q2
          rw [q] at he
          cases he
          rw [if_pos rfl]
          by_cases q3 : nmT fr tt t i x = nmT fr tt t i (fr i)
          · rw [if_pos q3]
          · rw [if_neg q3]
        · rw [h1 i e (by omega) he]
      · rw [hr d hd, hr e he] at h
        have hnx : conn fr tt (n + 1) (fr n) x := fun c hc => hc n x (by omega) q
        by_cases q3 : nmT fr tt t n d = nmT fr tt t n (fr n)
        · by_cases q4 : nmT fr tt t n e = nmT fr tt t n (fr n)
          · exact hup d e (h2 d e hd he (q3.trans q4.symm))
          · rw [if_pos q3, if_neg q4] at h
            exact ((hup _ _ (h2 d (fr n) hd (by omega) q3)).tr hnx).tr (hup _ _ (h2 x e (by omega) he h))
        · by_cases q4 : nmT fr tt t n e = nmT fr tt t n (fr n)
          · rw [if_neg q3, if_pos q4] at h
            exact ((hup _ _ (h2 d x hd (by omega) h)).tr hnx.sym).tr (hup _ _ (h2 (fr n) e (by omega) he q4.symm))
          · rw [if_neg q3, if_neg q4] at h
            exact hup d e (h2 d e hd he h)
theorem nmT_conn (hT : TN fr tt nt N) (hN : N ≤ 6) (t : Nat → Nat) {d e : Nat} (hd : d < 6) (he : e < 6) : nmT fr tt t nt d = nmT fr tt t nt e ↔ conn fr tt nt d e := by
  obtain ⟨h1, h2⟩ := nmT_spec hT hN t nt (Nat.le_refl _)
  refine ⟨h2 d e hd he, fun h => ?_⟩
  have := h (fun x => decide (nmT fr tt t nt x = nmT fr tt t nt d)) (fun i x hi hx => by show decide (nmT fr tt t nt (fr i) = nmT fr tt t nt d) = decide (nmT fr tt t nt x = nmT fr tt t nt d); rw [h1 i x hi hx])
  rw [show decide (nmT fr tt t nt d = nmT fr tt t nt d) = true from decide_eq_true rfl] at this
  exact (of_decide_eq_true this.symm).symm
theorem hasM_conn (hT : TN fr tt nt N) (hN : N ≤ 6) (t : Nat → Nat) {d : Nat} (hd : d < 6) : hasM fr tt (nmT fr tt t nt) nt (nmT fr tt t nt d) ↔ ∃ i, i < nt ∧ tt i = none ∧ conn fr tt nt d (fr i) := by
  constructor
  · rintro ⟨i, h1, h2, h3⟩
    exact ⟨i, h1, h2, ((nmT_conn hT hN t (by have := (hT i h1).1; omega) hd).mp h3).sym⟩
  · rintro ⟨i, h1, h2, h3⟩
    exact ⟨i, h1, h2, (nmT_conn hT hN t (by have := (hT i h1).1; omega) hd).mpr h3.sym⟩
end
section
variable {on1 ot2 lea mos : Nat → Nat} {tld N : Nat}
theorem two_bit {a b e : Nat} : (2 ^ a ||| 2 ^ b).testBit e = true ↔ (a = e ∨ b = e) := by
  rw [Nat.testBit_or, Nat.testBit_two_pow, Nat.testBit_two_pow, Bool.or_eq_true, decide_eq_true_eq, decide_eq_true_eq]
theorem and_z {m n : Nat} : m &&& n = 0 ↔ ∀ e, ¬ (m.testBit e = true ∧ n.testBit e = true) := by
  constructor
  · intro h e ⟨h1, h2⟩
    have : (m &&& n).testBit e = true := by rw [Nat.testBit_and, h1, h2]; rfl
    rw [h, Nat.zero_testBit] at this; cases this
  · intro h
    refine Nat.eq_of_testBit_eq (fun e => ?_)
    rw [Nat.testBit_and, Nat.zero_testBit]
    cases q : m.testBit e with
    | false => rfl
    | true =>
      cases q2 : n.testBit e with
      | false => rfl
      | true => exact absurd ⟨q, q2⟩ (h e)
theorem tOk_mono {m : Nat} : ∀ k e, m.testBit e = true → (tOk on1 ot2 k m).testBit e = true := by
  intro k
  induction k with
  | zero => intro e h; exact h
  | succ k ih =>
    intro e h
    by_cases q : tOk on1 ot2 k m &&& (2 ^ on1 k ||| 2 ^ ot2 k) = 0
    · rw [tOk_z q]; exact ih e h
    · rw [tOk_n q, Nat.testBit_or, ih e h]; rfl
theorem tOk_mono2 {m : Nat} {k : Nat} {e : Nat} (h : (tOk on1 ot2 k m).testBit e = true) : (tOk on1 ot2 (k + 1) m).testBit e = true := by
  by_cases q : tOk on1 ot2 k m &&& (2 ^ on1 k ||| 2 ^ ot2 k) = 0
  · rw [tOk_z q]; exact h
  · rw [tOk_n q, Nat.testBit_or, h]; rfl
theorem tOk_up {m : Nat} {k n : Nat} {e : Nat} (hk : k ≤ n) (h : (tOk on1 ot2 k m).testBit e = true) : (tOk on1 ot2 n m).testBit e = true := by
  induction n with
  | zero => rw [show k = 0 by omega] at h; exact h
  | succ n ih =>
    by_cases q : k = n + 1
    · rw [← q]; exact h
    · exact tOk_mono2 (ih (by omega))
theorem tOk_conn {d m : Nat} (hm : ∀ e, m.testBit e = true → conn on1 (mtt on1 ot2) tld d e) : ∀ k, k ≤ tld → ∀ e, (tOk on1 ot2 k m).testBit e = true → conn on1 (mtt on1 ot2) tld d e := by
  intro k
  induction k with
  | zero => intro _ e h; exact hm e h
  | succ k ih =>
    intro hk e h
    by_cases q : tOk on1 ot2 k m &&& (2 ^ on1 k ||| 2 ^ ot2 k) = 0
    · rw [tOk_z q] at h; exact ih (by omega) e h
    · rw [tOk_n q, Nat.testBit_or, Bool.or_eq_true, two_bit] at h
      have hkk : conn on1 (mtt on1 ot2) tld (on1 k) (ot2 k) := fun c hc => by
        by_cases q2 : on1 k = ot2 k
        · rw [q2]
        · exact hc k (ot2 k) (by omega) (mtt_s.mpr ⟨q2, rfl⟩)
      rcases h with h | h
      · exact ih (by omega) e h
      · have : ∃ x, (tOk on1 ot2 k m).testBit x = true ∧ (on1 k = x ∨ ot2 k = x) := Classical.byContradiction (fun q2 => q (and_z.mpr (fun x hx => q2 ⟨x, hx.1, two_bit.mp hx.2⟩)))
        obtain ⟨x, h1, h2⟩ := this
        have h3 := ih (by omega) x h1
        rcases h2 with h2 | h2 <;> rcases h with h | h
        · rw [← h, h2]; exact h3
        · rw [← h]; exact (h2 ▸ h3).tr hkk
        · rw [← h]; exact (h2 ▸ h3).tr hkk.sym
        · rw [← h, h2]; exact h3
theorem tOr_conn {d m : Nat} (hm : ∀ e, m.testBit e = true → conn on1 (mtt on1 ot2) tld d e) : ∀ r e, (tOr on1 ot2 tld r m).testBit e = true → conn on1 (mtt on1 ot2) tld d e := by
  intro r
  induction r with
  | zero => exact hm
  | succ r ih => exact tOk_conn ih tld (Nat.le_refl _)
/-- how many dates a mask has -/
def pc6 (m : Nat) : Nat := sm (fun d => if m.testBit d = true then 1 else 0) 6
theorem pc6_le (m : Nat) : pc6 m ≤ 6 := Nat.le_trans (sm_le (G := fun _ => 1) (fun i _ => by split <;> omega)) (by decide)
theorem pc6_lt {m n : Nat} (h : ∀ e, m.testBit e = true → n.testBit e = true) {x : Nat} (hx : x < 6) (h1 : m.testBit x = false) (h2 : n.testBit x = true) : pc6 m < pc6 n := by
  unfold pc6
  have e1 : sm (fun d => (if m.testBit d = true then 1 else 0) + (if d = x then 1 else 0)) 6 ≤ sm (fun d => if n.testBit d = true then 1 else 0) 6 := sm_le (fun d _ => by
    by_cases q : d = x
    · subst q; rw [h1, h2]; simp
    · rw [if_neg q]
      by_cases q2 : m.testBit d = true
      · rw [if_pos q2, if_pos (h d q2)]; exact Nat.le_refl _
      · rw [if_neg q2]; exact Nat.zero_le _)
  rw [sm_add, sm_one (F := fun d => if d = x then 1 else 0) hx (fun i _ hi => if_neg hi), if_pos rfl] at e1
  omega
theorem tOr_fix (hM : MOK on1 ot2 lea mos tld) {m : Nat} (hm : m < 2 ^ 6) (h0 : 1 ≤ pc6 m) : ∀ r, tOk on1 ot2 tld (tOr on1 ot2 tld r m) = tOr on1 ot2 tld r m ∨ r + 1 ≤ pc6 (tOr on1 ot2 tld r m) := by
  intro r
  induction r with
  | zero => exact Or.inr h0
  | succ r ih =>
    by_cases q : tOk on1 ot2 tld (tOr on1 ot2 tld r m) = tOr on1 ot2 tld r m
    · refine Or.inl ?_
      show tOk on1 ot2 tld (tOk on1 ot2 tld (tOr on1 ot2 tld r m)) = tOk on1 ot2 tld (tOr on1 ot2 tld r m)
      rw [q]; exact q
    · refine Or.inr ?_
      have h1 : r + 1 ≤ pc6 (tOr on1 ot2 tld r m) := ih.elim (fun q2 => absurd q2 q) id
      have hlt := tOr_lt hM (r + 1) m hm
      have : ∃ x, (tOr on1 ot2 tld r m).testBit x = false ∧ (tOr on1 ot2 tld (r + 1) m).testBit x = true := Classical.byContradiction (fun q2 => q (Nat.eq_of_testBit_eq (fun x => by
        cases q3 : (tOr on1 ot2 tld r m).testBit x with
        | true => exact tOk_mono tld x q3
        | false =>
          cases q4 : (tOk on1 ot2 tld (tOr on1 ot2 tld r m)).testBit x with
          | false => rfl
          | true => exact absurd ⟨x, q3, q4⟩ q2)))
      obtain ⟨x, h2, h3⟩ := this
      have hx : x < 6 := Nat.not_le.mp (fun q2 => by
        rw [Nat.testBit_lt_two_pow (Nat.lt_of_lt_of_le hlt (Nat.pow_le_pow_right (by decide) q2))] at h3; cases h3)
      have := pc6_lt (n := tOr on1 ot2 tld (r + 1) m) (fun e he => tOk_mono tld e he) hx h2 h3
      omega
theorem tOr_iff (hM : MOK on1 ot2 lea mos tld) {d : Nat} (hd : d < 6) (e : Nat) (he : e < 6) : (tOr on1 ot2 tld 6 (2 ^ d)).testBit e = true ↔ conn on1 (mtt on1 ot2) tld d e := by
  have hd2 : ∀ e, (2 ^ d).testBit e = true → d = e := fun e h => by rw [Nat.testBit_two_pow] at h; exact of_decide_eq_true h
  have h0 : 1 ≤ pc6 (2 ^ d) := by
    have := sm_ge (F := fun x => if (2 ^ d).testBit x = true then 1 else 0) (n := 6) hd
    rw [if_pos (by rw [Nat.testBit_two_pow]; simp)] at this
    exact this
  have hfix : tOk on1 ot2 tld (tOr on1 ot2 tld 6 (2 ^ d)) = tOr on1 ot2 tld 6 (2 ^ d) := (tOr_fix hM (Nat.pow_lt_pow_right (by decide) hd) h0 6).elim id (fun q => by have := pc6_le (tOr on1 ot2 tld 6 (2 ^ d)); omega)
  refine ⟨tOr_conn (fun e h => by rw [hd2 e h]; exact fun c _ => rfl) 6 e, fun h => ?_⟩
  have hst : ∀ r, (tOr on1 ot2 tld r (2 ^ d)).testBit d = true := by
    intro r
    induction r with
    | zero => show (2 ^ d).testBit d = true; rw [Nat.testBit_two_pow]; simp
    | succ r ih => exact tOk_mono tld d ih
  have := h (fun x => (tOr on1 ot2 tld 6 (2 ^ d)).testBit x) (fun k x hk hx => by
    obtain ⟨-, rfl⟩ := mtt_s.mp hx
    generalize tOr on1 ot2 tld 6 (2 ^ d) = m at hfix
    have hone : ∀ x, (on1 k = x ∨ ot2 k = x) → m.testBit x = true → m.testBit (on1 k) = true ∧ m.testBit (ot2 k) = true := fun x hx hb => by
      have hk1 : ¬ tOk on1 ot2 k m &&& (2 ^ on1 k ||| 2 ^ ot2 k) = 0 := fun q => and_z.mp q x ⟨tOk_mono k x hb, two_bit.mpr hx⟩
      have hs : ∀ y, (on1 k = y ∨ ot2 k = y) → m.testBit y = true := fun y hy => by
        rw [← hfix]
        refine tOk_up (show k + 1 ≤ tld by omega) ?_
        rw [tOk_n hk1, Nat.testBit_or, two_bit.mpr hy, Bool.or_true]
      exact ⟨hs _ (Or.inl rfl), hs _ (Or.inr rfl)⟩
    show m.testBit (on1 k) = m.testBit (ot2 k)
    cases q : m.testBit (on1 k) with
    | true => exact (hone _ (Or.inl rfl) q).2.symm
    | false =>
      cases q2 : m.testBit (ot2 k) with
      | false => rfl
      | true => rw [(hone _ (Or.inr rfl) q2).1] at q; cases q)
  exact this.symm.trans (hst 6)
theorem tOr_eq (hM : MOK on1 ot2 lea mos tld) {a b : Nat} (ha : a < 6) (hb : b < 6) : tOr on1 ot2 tld 6 (2 ^ a) = tOr on1 ot2 tld 6 (2 ^ b) ↔ conn on1 (mtt on1 ot2) tld a b := by
  constructor
  · intro h
    have := (tOr_iff hM hb b hb).mpr (fun c _ => rfl)
    rw [← h] at this
    exact (tOr_iff hM ha b hb).mp this
  · intro h
    refine Nat.eq_of_testBit_eq (fun e => ?_)
    by_cases q : e < 6
    · cases q2 : (tOr on1 ot2 tld 6 (2 ^ b)).testBit e with
      | true => exact (tOr_iff hM ha e q).mpr (h.tr ((tOr_iff hM hb e q).mp q2))
      | false =>
        cases q3 : (tOr on1 ot2 tld 6 (2 ^ a)).testBit e with
        | false => rfl
        | true => rw [(tOr_iff hM hb e q).mpr (h.sym.tr ((tOr_iff hM ha e q).mp q3))] at q2; cases q2
    · have hp : ∀ x, x < 6 → (tOr on1 ot2 tld 6 (2 ^ x)).testBit e = false := fun x hx => Nat.testBit_lt_two_pow (Nat.lt_of_lt_of_le (tOr_lt hM 6 _ (Nat.pow_lt_pow_right (by decide) hx)) (Nat.pow_le_pow_right (by decide) (by omega)))
      rw [hp a ha, hp b hb]
theorem tOr_mem (hM : MOK on1 ot2 lea mos tld) {a : Nat} (ha : a < 6) : (∃ k, k < tld ∧ on1 k = ot2 k ∧ (tOr on1 ot2 tld 6 (2 ^ a)).testBit (on1 k) = true) ↔ ∃ i, i < tld ∧ mtt on1 ot2 i = none ∧ conn on1 (mtt on1 ot2) tld a (on1 i) := by
  constructor
  · rintro ⟨k, h1, h2, h3⟩
    exact ⟨k, h1, mtt_n.mpr h2, (tOr_iff hM ha _ (hM.2 k h1).1).mp h3⟩
  · rintro ⟨k, h1, h2, h3⟩
    exact ⟨k, h1, mtt_n.mp h2, (tOr_iff hM ha _ (hM.2 k h1).1).mpr h3⟩
end
