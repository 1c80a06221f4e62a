/-! The order of the dates: what the search from a date gives -/
/-- no more numbers than places -/
theorem pigeon {q m : Nat} {f : Nat → Nat} (h1 : ∀ j, j < q → f j < m) (h2 : ∀ i j, i < q → j < q → f i = f j → i = j) : q ≤ m := by
  have e1 : sm (fun j => sm (fun d => if f j = d then 1 else 0) m) q = sm (fun _ => 1) q := sm_congr (fun j hj => by
    rw [sm_one (h1 j hj) (fun i _ hi => if_neg (fun e => hi e.symm)), if_pos rfl])
  have e2 : sm (fun d => sm (fun j => if f j = d then 1 else 0) q) m ≤ sm (fun _ => 1) m := sm_le (fun d _ => by
    by_cases q1 : ∃ j, j < q ∧ f j = d
    · obtain ⟨j, hj, hjd⟩ := q1
      rw [sm_one hj (fun i hi hij => if_neg (fun e => hij (h2 i j hi hj (e.trans hjd.symm)))), if_pos hjd]
      exact Nat.le_refl _
    · rw [sm_zero (fun i hi => if_neg (fun e => q1 ⟨i, hi, e⟩))]
      exact Nat.zero_le _)
  have e3 : ∀ k, sm (fun _ => 1) k = k := by
    intro k
    induction k with
    | zero => rfl
    | succ k ih => rw [sm_s, ih]
  rw [sm_swap, e3] at e1
  rw [e1, e3] at e2
  exact e2
/-- .. and fewer, if a place is free -/
theorem pigeon2 {q m d : Nat} {f : Nat → Nat} (h1 : ∀ j, j < q → f j < m) (h2 : ∀ i j, i < q → j < q → f i = f j → i = j) (hd : d < m) (h3 : ∀ j, j < q → f j ≠ d) : q < m := by
  refine pigeon (q := q + 1) (f := fun j => if j = q then d else f j) (fun j hj => ?_) (fun i j hi hj e => ?_)
  · show (if j = q then d else f j) < m
    by_cases a : j = q
    · rw [if_pos a]; exact hd
    · rw [if_neg a]; exact h1 j (by omega)
  · have e : (if i = q then d else f i) = (if j = q then d else f j) := e
    by_cases a : i = q
    · by_cases b : j = q
      · omega
      · rw [if_pos a, if_neg b] at e; exact absurd e.symm (h3 j (by omega))
    · by_cases b : j = q
      · rw [if_neg a, if_pos b] at e; exact absurd e (h3 i (by omega))
      · rw [if_neg a, if_neg b] at e; exact h2 i j (by omega) (by omega) e
/-- what is told lies among N dates, and a row's ends are two -/
def TN (fr : Nat → Nat) (tt : Nat → Option Nat) (nt N : Nat) : Prop := ∀ i, i < nt → fr i < N ∧ ∀ e, tt i = some e → e < N ∧ e ≠ fr i
section
variable {fr : Nat → Nat} {tt : Nat → Option Nat} {nf : Nat → Bool} {nt N : Nat}
theorem oth_iff {i d e : Nat} : oth fr tt nf i d = some e ↔ nf i = true ∧ ∃ c, tt i = some c ∧ ((fr i = d ∧ c = e) ∨ (fr i ≠ d ∧ c = d ∧ fr i = e)) := by
  unfold oth
  by_cases q : nf i = true
  · rw [if_pos q]
    cases ht : tt i with
    | none => constructor
              · intro h; cases h
              · rintro ⟨_, c, h, _⟩; cases h
    | some x =>
      show (if fr i = d then some x else if x = d then some (fr i) else none) = some e ↔ _
      by_cases q2 : fr i = d
      · rw [if_pos q2]
        constructor
        · intro h; exact ⟨q, x, rfl, Or.inl ⟨q2, Option.some.inj h⟩⟩
        · rintro ⟨_, c, h, h2⟩
          cases h
          rcases h2 with ⟨_, h2⟩ | ⟨h2, _⟩
          · rw [h2]
          · exact absurd q2 h2
      · rw [if_neg q2]
        by_cases q3 : x = d
        · rw [if_pos q3]
          constructor
          · intro h; exact ⟨q, x, rfl, Or.inr ⟨q2, q3, Option.some.inj h⟩⟩
          · rintro ⟨_, c, h, h2⟩
            cases h
            rcases h2 with ⟨h2, _⟩ | ⟨_, _, h2⟩
            · exact absurd h2 q2
            · rw [h2]
        · rw [if_neg q3]
          constructor
          · intro h; cases h
          · rintro ⟨_, c, h, h2⟩
            cases h
            rcases h2 with ⟨h2, _⟩ | ⟨_, h2, _⟩
            · exact absurd h2 q2
            · exact absurd h2 q3
  · rw [if_neg q]
    constructor
    · intro h; cases h
    · rintro ⟨h, _⟩; exact absurd h q
theorem oth_sym (hT : TN fr tt nt N) {i d e : Nat} (hi : i < nt) (h : oth fr tt nf i d = some e) : oth fr tt nf i e = some d := by
  obtain ⟨h1, c, h2, h3⟩ := oth_iff.mp h
  have h4 := ((hT i hi).2 c h2).2
  refine oth_iff.mpr ⟨h1, c, h2, ?_⟩
  rcases h3 with ⟨a, b⟩ | ⟨a, b, b2⟩
  · exact Or.inr ⟨fun q => h4 (by rw [b, q]), b, a⟩
  · exact Or.inl ⟨b2, b⟩
theorem oth_ltN (hT : TN fr tt nt N) {i d e : Nat} (hi : i < nt) (h : oth fr tt nf i d = some e) : e < N ∧ d < N ∧ e ≠ d := by
  obtain ⟨h1, c, h2, h3⟩ := oth_iff.mp h
  have h4 := (hT i hi).2 c h2
  have h5 := (hT i hi).1
  rcases h3 with ⟨a, b⟩ | ⟨a, b, b2⟩
  · subst a; subst b; exact ⟨h4.1, h5, h4.2⟩
  · subst b; subst b2; exact ⟨h5, h4.1, fun q => h4.2 q.symm⟩
/-- what holds of the queue -/
abbrev BI (fr : Nat → Nat) (tt : Nat → Option Nat) (nf : Nat → Bool) (nt N : Nat) (k : KQ) : Prop :=
  (∀ j, j < k.2.2.2.2 → k.2.2.2.1 j < N ∧ k.1 (k.2.2.2.1 j) = true) ∧
  (∀ d, d < N → k.1 d = true → ∃ j, j < k.2.2.2.2 ∧ k.2.2.2.1 j = d) ∧
  (∀ i j, i < k.2.2.2.2 → j < k.2.2.2.2 → k.2.2.2.1 i = k.2.2.2.1 j → i = j) ∧
  (∀ j, j < k.2.2.2.2 → ∀ e, k.2.1 (k.2.2.2.1 j) = some e → ∃ j1, j1 < j ∧ k.2.2.2.1 j1 = e ∧ ∃ i, i < nt ∧ k.2.2.1 (k.2.2.2.1 j) = some i ∧ oth fr tt nf i e = some (k.2.2.2.1 j))
theorem BI.lt {fr : Nat → Nat} {tt : Nat → Option Nat} {nf : Nat → Bool} {nt N : Nat} {k : KQ} (h : BI fr tt nf nt N k) : ∀ j, j < k.2.2.2.2 → k.2.2.2.1 j < N ∧ k.1 (k.2.2.2.1 j) = true := h.1
theorem BI.ex {fr : Nat → Nat} {tt : Nat → Option Nat} {nf : Nat → Bool} {nt N : Nat} {k : KQ} (h : BI fr tt nf nt N k) : ∀ d, d < N → k.1 d = true → ∃ j, j < k.2.2.2.2 ∧ k.2.2.2.1 j = d := h.2.1
theorem BI.inj {fr : Nat → Nat} {tt : Nat → Option Nat} {nf : Nat → Bool} {nt N : Nat} {k : KQ} (h : BI fr tt nf nt N k) : ∀ i j, i < k.2.2.2.2 → j < k.2.2.2.2 → k.2.2.2.1 i = k.2.2.2.1 j → i = j := h.2.2.1
theorem BI.pa {fr : Nat → Nat} {tt : Nat → Option Nat} {nf : Nat → Bool} {nt N : Nat} {k : KQ} (h : BI fr tt nf nt N k) : ∀ j, j < k.2.2.2.2 → ∀ e, k.2.1 (k.2.2.2.1 j) = some e → ∃ j1, j1 < j ∧ k.2.2.2.1 j1 = e ∧ ∃ i, i < nt ∧ k.2.2.1 (k.2.2.2.1 j) = some i ∧ oth fr tt nf i e = some (k.2.2.2.1 j) := h.2.2.2
/-- a later queue -/
abbrev BX (k k1 : KQ) : Prop :=
  (k.2.2.2.2 ≤ k1.2.2.2.2) ∧
  (∀ j, j < k.2.2.2.2 → k1.2.2.2.1 j = k.2.2.2.1 j) ∧
  (∀ d, k.1 d = true → k1.1 d = true) ∧
  (∀ d, k.1 d = true → k1.2.1 d = k.2.1 d ∧ k1.2.2.1 d = k.2.2.1 d)
theorem BX.q {k k1 : KQ} (h : BX k k1) : k.2.2.2.2 ≤ k1.2.2.2.2 := h.1
theorem BX.od {k k1 : KQ} (h : BX k k1) : ∀ j, j < k.2.2.2.2 → k1.2.2.2.1 j = k.2.2.2.1 j := h.2.1
theorem BX.se {k k1 : KQ} (h : BX k k1) : ∀ d, k.1 d = true → k1.1 d = true := h.2.2.1
theorem BX.pa {k k1 : KQ} (h : BX k k1) : ∀ d, k.1 d = true → k1.2.1 d = k.2.1 d ∧ k1.2.2.1 d = k.2.2.1 d := h.2.2.2
theorem BX.rf (k : KQ) : BX k k := ⟨Nat.le_refl _, fun _ _ => rfl, fun _ h => h, fun _ _ => ⟨rfl, rfl⟩⟩
theorem BX.tr {k k1 k2 : KQ} (h1 : BX k k1) (h2 : BX k1 k2) : BX k k2 := ⟨Nat.le_trans h1.q h2.q, fun j hj => (h2.od j (Nat.lt_of_lt_of_le hj h1.q)).trans (h1.od j hj), fun d h => h2.se d (h1.se d h), fun d h => ⟨(h2.pa d (h1.se d h)).1.trans (h1.pa d h).1, (h2.pa d (h1.se d h)).2.trans (h1.pa d h).2⟩⟩
theorem BI.room {k : KQ} (h : BI fr tt nf nt N k) {d : Nat} (hd : d < N) (hs : k.1 d = false) : k.2.2.2.2 < N := pigeon2 (f := k.2.2.2.1) (fun j hj => (h.lt j hj).1) h.inj hd (fun j hj e => by have := (h.lt j hj).2; rw [e, hs] at this; cases this)
theorem BI.le {k : KQ} (h : BI fr tt nf nt N k) : k.2.2.2.2 ≤ N := pigeon (f := k.2.2.2.1) (fun j hj => (h.lt j hj).1) h.inj
theorem qD_seen {k : KQ} {d : Nat} {f a : Option Nat} (h : k.1 d = true) : qD k d f a = k := if_pos (Or.inl h)
theorem qD_new {k : KQ} {d : Nat} {f a : Option Nat} (h : k.1 d = false) (h2 : k.2.2.2.2 < 6) : qD k d f a = (va_up k.1 d true, va_up k.2.1 d f, va_up k.2.2.1 d a, va_up k.2.2.2.1 k.2.2.2.2 d, k.2.2.2.2 + 1) := if_neg (fun q => q.elim (fun q => by rw [h] at q; cases q) (fun q => by omega))
theorem BX.qD (k : KQ) (d : Nat) (f a : Option Nat) : BX k (qD k d f a) := by
  cases q : k.1 d with
  | true => rw [qD_seen q]; exact BX.rf k
  | false =>
    by_cases q2 : k.2.2.2.2 < 6
    · rw [qD_new q q2]
      refine ⟨Nat.le_succ _, fun j hj => va_up_ne _ _ (by omega), fun x hx => ?_, fun x hx => ?_⟩
      · show va_up k.1 d true x = true
        by_cases q3 : x = d
        · rw [q3, va_up_self]
        · rw [va_up_ne _ _ q3]; exact hx
      · have q3 : x ≠ d := fun e => by rw [e, q] at hx; cases hx
        exact ⟨va_up_ne _ _ q3, va_up_ne _ _ q3⟩
    · have : Jvm.Pilot.COrderPassingLaw_law_r2807_e37605.qD k d f a = k := if_pos (Or.inr (by omega))
      rw [this]; exact BX.rf k
theorem BI.qD (hN : N ≤ 6) {k : KQ} (h : BI fr tt nf nt N k) {d : Nat} {f a : Option Nat} (hd : d < N) (hfa : f = none ∨ ∃ e j1 i, f = some e ∧ j1 < k.2.2.2.2 ∧ k.2.2.2.1 j1 = e ∧ i < nt ∧ a = some i ∧ oth fr tt nf i e = some d) : BI fr tt nf nt N (qD k d f a) ∧ (Jvm.Pilot.COrderPassingLaw_law_r2807_e37605.qD k d f a).1 d = true := by
  cases q : k.1 d with
  | true => rw [qD_seen q]; exact ⟨h, q⟩
  | false =>
    have hr := h.room hd q
    rw [qD_new q (by omega)]
    refine ⟨⟨fun j hj => ?_, fun x hx hs => ?_, fun i j hi hj e => ?_, fun j hj e he => ?_⟩, va_up_self _ _ _⟩
    · show va_up k.2.2.2.1 k.2.2.2.2 d j < N ∧ va_up k.1 d true (va_up k.2.2.2.1 k.2.2.2.2 d j) = true
      have hj : j < k.2.2.2.2 + 1 := hj
      by_cases q3 : j = k.2.2.2.2
      · rw [q3, va_up_self, va_up_self]; exact ⟨hd, rfl⟩
      · rw [va_up_ne _ _ q3]
        have h1 := h.lt j (by omega)
        refine ⟨h1.1, ?_⟩
        rw [va_up_ne _ _ (fun e => by rw [e, q] at h1; cases h1.2)]; exact h1.2
    · have hs : va_up k.1 d true x = true := hs
      show ∃ j, j < k.2.2.2.2 + 1 ∧ va_up k.2.2.2.1 k.2.2.2.2 d j = x
      by_cases q3 : x = d
      · exact ⟨k.2.2.2.2, Nat.lt_succ_self _, by rw [va_up_self, q3]⟩
      · rw [va_up_ne _ _ q3] at hs
        obtain ⟨j, hj, hjx⟩ := h.ex x hx hs
        exact ⟨j, by omega, by rw [va_up_ne _ _ (by omega)]; exact hjx⟩
    · have e : va_up k.2.2.2.1 k.2.2.2.2 d i = va_up k.2.2.2.1 k.2.2.2.2 d j := e
      have hi : i < k.2.2.2.2 + 1 := hi
      have hj : j < k.2.2.2.2 + 1 := hj
      have hno : ∀ j, j < k.2.2.2.2 → k.2.2.2.1 j ≠ d := fun j hj e => by have := (h.lt j hj).2; rw [e, q] at this; cases this
      by_cases q3 : i = k.2.2.2.2
      · by_cases q4 : j = k.2.2.2.2
        · omega
        · rw [q3, va_up_self, va_up_ne _ _ q4] at e; exact absurd e.symm (hno j (by omega))
      · by_cases q4 : j = k.2.2.2.2
        · rw [q4, va_up_self, va_up_ne _ _ q3] at e; exact absurd e (hno i (by omega))
        · rw [va_up_ne _ _ q3, va_up_ne _ _ q4] at e; exact h.inj i j (by omega) (by omega) e
    · have hj : j < k.2.2.2.2 + 1 := hj
      have he : va_up k.2.1 d f (va_up k.2.2.2.1 k.2.2.2.2 d j) = some e := he
      show ∃ j1, j1 < j ∧ va_up k.2.2.2.1 k.2.2.2.2 d j1 = e ∧ ∃ i, i < nt ∧ va_up k.2.2.1 d a (va_up k.2.2.2.1 k.2.2.2.2 d j) = some i ∧ oth fr tt nf i e = some (va_up k.2.2.2.1 k.2.2.2.2 d j)
      by_cases q3 : j = k.2.2.2.2
      · rw [q3, va_up_self] at he ⊢
        rw [va_up_self] at he ⊢
        rcases hfa with hfa | ⟨e1, j1, i, h1, h2, h3, h4, h5, h6⟩
        · rw [hfa] at he; cases he
        · rw [h1] at he
          cases he
          exact ⟨j1, h2, by rw [va_up_ne _ _ (by omega)]; exact h3, i, h4, h5, h6⟩
      · rw [va_up_ne _ _ q3] at he ⊢
        have hne : k.2.2.2.1 j ≠ d := fun e => by have := (h.lt j (by omega)).2; rw [e, q] at this; cases this
        rw [va_up_ne _ _ hne] at he ⊢
        obtain ⟨j1, h1, h2, h3⟩ := h.pa j (by omega) e he
        exact ⟨j1, h1, by rw [va_up_ne _ _ (by omega)]; exact h2, h3⟩
/-- the places from b on are one tree, from x -/
def SG (k : KQ) (b x : Nat) : Prop := ∀ j, b ≤ j → j < k.2.2.2.2 → (j = b ∧ k.2.2.2.1 j = x ∧ k.2.1 x = none) ∨ (b < j ∧ ∃ e j1, k.2.1 (k.2.2.2.1 j) = some e ∧ b ≤ j1 ∧ j1 < j ∧ k.2.2.2.1 j1 = e)
/-- the places from b to below p have all their neighbours in the queue -/
def CLs (fr : Nat → Nat) (tt : Nat → Option Nat) (nf : Nat → Bool) (nt : Nat) (k : KQ) (b p : Nat) : Prop := ∀ j, b ≤ j → j < p → ∀ i e, i < nt → oth fr tt nf i (k.2.2.2.1 j) = some e → k.1 e = true
theorem CLs.mono {k k1 : KQ} {b p : Nat} (h : CLs fr tt nf nt k b p) (hx : BX k k1) (hp : p ≤ k.2.2.2.2) : CLs fr tt nf nt k1 b p := fun j h1 h2 i e hi he => hx.se _ (h j h1 h2 i e hi (by rw [← hx.od j (by omega)]; exact he))
theorem SG.qD (hN : N ≤ 6) {k : KQ} {b x d e j1 : Nat} {a : Option Nat} (hB : BI fr tt nf nt N k) (h : SG k b x) (hd : d < N) (h1 : b ≤ j1) (h2 : j1 < k.2.2.2.2) (h3 : k.2.2.2.1 j1 = e) : SG (qD k d (some e) a) b x := by
  cases q : k.1 d with
  | true => rw [qD_seen q]; exact h
  | false =>
    have hr := hB.room hd q
    rw [qD_new q (by omega)]
    intro j hj1 hj2
    have hj2 : j < k.2.2.2.2 + 1 := hj2
    show (j = b ∧ va_up k.2.2.2.1 k.2.2.2.2 d j = x ∧ va_up k.2.1 d (some e) x = none) ∨ (b < j ∧ ∃ e1 j1, va_up k.2.1 d (some e) (va_up k.2.2.2.1 k.2.2.2.2 d j) = some e1 ∧ b ≤ j1 ∧ j1 < j ∧ va_up k.2.2.2.1 k.2.2.2.2 d j1 = e1)
    by_cases q3 : j = k.2.2.2.2
    · refine Or.inr ⟨by omega, e, j1, ?_, h1, by omega, ?_⟩
      · rw [q3, va_up_self, va_up_self]
      · rw [va_up_ne _ _ (by omega)]; exact h3
    · have hne : k.2.2.2.1 j ≠ d := fun e => by have := (hB.lt j (by omega)).2; rw [e, q] at this; cases this
      rw [va_up_ne _ _ q3, va_up_ne _ _ hne]
      rcases h j hj1 (by omega) with ⟨a1, a2, a3⟩ | ⟨a1, e1, j2, a2, a3, a4, a5⟩
      · refine Or.inl ⟨a1, a2, ?_⟩
        rw [va_up_ne _ _ (fun q4 => hne (a2.trans q4))]; exact a3
      · exact Or.inr ⟨a1, e1, j2, a2, a3, a4, by rw [va_up_ne _ _ (by omega)]; exact a5⟩
theorem qC_spec (hN : N ≤ 6) (hT : TN fr tt nt N) {k : KQ} {b x p : Nat} (hB : BI fr tt nf nt N k) (hS : SG k b x) (hp : b ≤ p) (hp2 : p < k.2.2.2.2) : ∀ n, n ≤ nt → BI fr tt nf nt N (qC fr tt nf (k.2.2.2.1 p) k n) ∧ SG (qC fr tt nf (k.2.2.2.1 p) k n) b x ∧ BX k (qC fr tt nf (k.2.2.2.1 p) k n) ∧ ∀ i e, i < n → oth fr tt nf i (k.2.2.2.1 p) = some e → (qC fr tt nf (k.2.2.2.1 p) k n).1 e = true := by
  intro n
  induction n with
  | zero => intro _; exact ⟨hB, hS, BX.rf k, fun i e hi _ => absurd hi (by omega)⟩
  | succ n ih =>
    intro hn
    obtain ⟨h1, h2, h3, h4⟩ := ih (by omega)
    cases q : oth fr tt nf n (k.2.2.2.1 p) with
    | none =>
      rw [qC_none q]
      refine ⟨h1, h2, h3, fun i e hi he => ?_⟩
      by_cases q2 : i = n
      · rw [q2, q] at he; cases he
      · exact h4 i e (by omega) he
    | some c =>
      rw [qC_some q]
      obtain ⟨hc1, -, -⟩ := oth_ltN hT (show n < nt by omega) q
      have hpl : p < (qC fr tt nf (k.2.2.2.1 p) k n).2.2.2.2 := Nat.lt_of_lt_of_le hp2 h3.q
      obtain ⟨g1, g2⟩ := h1.qD hN (f := some (k.2.2.2.1 p)) (a := some n) hc1 (Or.inr ⟨k.2.2.2.1 p, p, n, rfl, hpl, h3.od p hp2, by omega, rfl, q⟩)
      refine ⟨g1, h2.qD hN h1 hc1 hp hpl (h3.od p hp2), h3.tr (BX.qD _ _ _ _), fun i e hi he => ?_⟩
      by_cases q2 : i = n
      · rw [q2, q] at he; cases he; exact g2
      · exact (BX.qD _ _ _ _).se _ (h4 i e (by omega) he)
theorem qL_spec (hN : N ≤ 6) (hT : TN fr tt nt N) {b x : Nat} : ∀ (r i : Nat) (k : KQ), BI fr tt nf nt N k → SG k b x → 6 < i + r → b ≤ i → i ≤ k.2.2.2.2 → CLs fr tt nf nt k b i → BI fr tt nf nt N (qL fr tt nf nt r i k) ∧ SG (qL fr tt nf nt r i k) b x ∧ BX k (qL fr tt nf nt r i k) ∧ CLs fr tt nf nt (qL fr tt nf nt r i k) b (qL fr tt nf nt r i k).2.2.2.2 := by
  intro r
  induction r with
  | zero => intro i k hB _ h1 _ h3 _; have := hB.le; omega
  | succ r ih =>
    intro i k hB hS h1 h2 h3 hC
    unfold qL
    by_cases q : i < k.2.2.2.2 ∧ i < 6
    · rw [if_pos q]
      obtain ⟨g1, g2, g3, g4⟩ := qC_spec hN hT hB hS h2 q.1 nt (Nat.le_refl _)
      obtain ⟨e1, e2, e3, e4⟩ := ih (i + 1) _ g1 g2 (by omega) (by omega) (Nat.lt_of_lt_of_le q.1 g3.q) (fun j hj1 hj2 i1 e hi1 he => by
        by_cases q2 : j = i
        · rw [q2, g3.od i q.1] at he; exact g4 i1 e hi1 he
        · exact (hC.mono g3 h3) j hj1 (by omega) i1 e hi1 he)
      exact ⟨e1, e2, g3.tr e3, e4⟩
    · rw [if_neg q]
      have := hB.le
      have e : i = k.2.2.2.2 := by omega
      exact ⟨hB, hS, BX.rf k, by rw [← e]; exact hC⟩
theorem qT_seen {k : KQ} {x : Nat} (h : k.1 x = true) : qT fr tt nf nt k x = k := by
  unfold qT
  rw [qD_seen h]
  unfold qL
  rw [if_neg (by omega)]
/-- all edges of the trees keep c -/
def kept (N : Nat) (k : KQ) (c : Nat → Bool) : Prop := ∀ d e, d < N → k.1 d = true → k.2.1 d = some e → c d = c e
theorem kept.back {k k1 : KQ} {c : Nat → Bool} (h : kept N k1 c) (hx : BX k k1) : kept N k c := fun d e hd hs hp => h d e hd (hx.se d hs) ((hx.pa d hs).1.trans hp)
theorem SG.same {k : KQ} {b x : Nat} (hB : BI fr tt nf nt N k) (h : SG k b x) {c : Nat → Bool} (hc : kept N k c) : ∀ n j, j < n → b ≤ j → j < k.2.2.2.2 → c (k.2.2.2.1 j) = c x := by
  intro n
  induction n with
  | zero => intro j h0; omega
  | succ n ih =>
    intro j h0 h1 h2
    rcases h j h1 h2 with ⟨a1, a2, a3⟩ | ⟨a1, e1, j2, a2, a3, a4, a5⟩
    · rw [a2]
    · rw [hc _ _ (hB.lt j h2).1 (hB.lt j h2).2 a2, ← a5]
      exact ih j2 (by omega) a3 (by omega)
/-- what holds of the queue between the trees -/
abbrev GI (fr : Nat → Nat) (tt : Nat → Option Nat) (nf : Nat → Bool) (nt N : Nat) (k : KQ) : Prop :=
  (BI fr tt nf nt N k) ∧
  (CLs fr tt nf nt k 0 k.2.2.2.2) ∧
  (∀ c, kept N k c → ∀ i d e, i < nt → oth fr tt nf i d = some e → k.1 d = true → c d = c e)
theorem GI.b {fr : Nat → Nat} {tt : Nat → Option Nat} {nf : Nat → Bool} {nt N : Nat} {k : KQ} (h : GI fr tt nf nt N k) : BI fr tt nf nt N k := h.1
theorem GI.cl {fr : Nat → Nat} {tt : Nat → Option Nat} {nf : Nat → Bool} {nt N : Nat} {k : KQ} (h : GI fr tt nf nt N k) : CLs fr tt nf nt k 0 k.2.2.2.2 := h.2.1
theorem GI.te {fr : Nat → Nat} {tt : Nat → Option Nat} {nf : Nat → Bool} {nt N : Nat} {k : KQ} (h : GI fr tt nf nt N k) : ∀ c, kept N k c → ∀ i d e, i < nt → oth fr tt nf i d = some e → k.1 d = true → c d = c e := h.2.2
theorem qT_spec (hN : N ≤ 6) (hT : TN fr tt nt N) {k : KQ} {x : Nat} (h : GI fr tt nf nt N k) (hx : x < N) : GI fr tt nf nt N (qT fr tt nf nt k x) ∧ BX k (qT fr tt nf nt k x) ∧ (qT fr tt nf nt k x).1 x = true ∧ (k.1 x = false → SG (qT fr tt nf nt k x) k.2.2.2.2 x ∧ k.2.2.2.2 < (qT fr tt nf nt k x).2.2.2.2) := by
  cases q : k.1 x with
  | true => rw [qT_seen q]; exact ⟨h, BX.rf k, q, fun q2 => by cases q2⟩
  | false =>
    have hr := h.b.room hx q
    obtain ⟨g1, g2⟩ := h.b.qD hN (f := none) (a := none) hx (Or.inl rfl)
    have hq1 : (qD k x none none).2.2.2.2 = k.2.2.2.2 + 1 := by rw [qD_new q (by omega)]
    have hod : (qD k x none none).2.2.2.1 k.2.2.2.2 = x := by rw [qD_new q (by omega)]; exact va_up_self _ _ _
    have hpa : (qD k x none none).2.1 x = none := by rw [qD_new q (by omega)]; exact va_up_self _ _ _
    have hsg : SG (qD k x none none) k.2.2.2.2 x := fun j h1 h2 => by
      have e : j = k.2.2.2.2 := by rw [hq1] at h2; omega
      refine Or.inl ⟨e, ?_, hpa⟩
      rw [e]; exact hod
    obtain ⟨e1, e2, e3, e4⟩ := qL_spec (nf := nf) hN hT 7 k.2.2.2.2 _ g1 hsg (by omega) (Nat.le_refl _) (by rw [hq1]; omega) (fun j h1 h2 => by omega)
    have hX : BX k (qT fr tt nf nt k x) := (BX.qD k x none none).tr e3
    have e1 : BI fr tt nf nt N (qT fr tt nf nt k x) := e1
    have e2 : SG (qT fr tt nf nt k x) k.2.2.2.2 x := e2
    have hcl : CLs fr tt nf nt (qT fr tt nf nt k x) 0 (qT fr tt nf nt k x).2.2.2.2 := fun j h1 h2 => by
      by_cases q2 : j < k.2.2.2.2
      · exact (h.cl.mono hX (Nat.le_refl _)) j h1 q2
      · exact e4 j (by omega) h2
    refine ⟨⟨e1, hcl, fun c hc i d e hi he hs => ?_⟩, hX, e3.se x g2, fun _ => ⟨e2, Nat.lt_of_lt_of_le (by rw [hq1]; omega) e3.q⟩⟩
    obtain ⟨he1, hd1, -⟩ := oth_ltN hT hi he
    cases q2 : k.1 d with
    | true => exact h.te c (hc.back hX) i d e hi he q2
    | false =>
      obtain ⟨j, hj1, hj2⟩ := e1.ex d hd1 hs
      have hse : (qT fr tt nf nt k x).1 e = true := hcl j (by omega) hj1 i e hi (by rw [hj2]; exact he)
      obtain ⟨j3, hj3, hj4⟩ := e1.ex e he1 hse
      have hjb : k.2.2.2.2 ≤ j := by
        refine Nat.not_lt.mp (fun q3 => ?_)
        have := (h.b.lt j q3).2
        rw [← hX.od j q3, show (qT fr tt nf nt k x).2.2.2.1 j = d from hj2, q2] at this
        cases this
      have hj3b : k.2.2.2.2 ≤ j3 := by
        refine Nat.not_lt.mp (fun q3 => ?_)
        have := h.cl j3 (by omega) q3 i d hi (by rw [← hX.od j3 q3, show (qT fr tt nf nt k x).2.2.2.1 j3 = e from hj4]; exact oth_sym hT hi he)
        rw [q2] at this; cases this
      rw [← hj2, ← hj4, SG.same e1 e2 hc (j + 1) j (by omega) hjb hj1, SG.same e1 e2 hc (j3 + 1) j3 (by omega) hj3b hj3]
end
