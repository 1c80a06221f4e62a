/-! The order of the dates of a forest -/
/-- what is told is a forest, with at most one member a tree: told by cuts -/
abbrev FST (fr : Nat → Nat) (tt : Nat → Option Nat) (nt : Nat) : Prop :=
  (∀ r b, r < nt → tt r = some b → ∃ c : Nat → Bool, c (fr r) ≠ c b ∧ ∀ i e, i < nt → i ≠ r → tt i = some e → c (fr i) = c e) ∧
  (∀ r s, r < nt → s < nt → r ≠ s → tt r = none → tt s = none → ∃ c : Nat → Bool, c (fr r) ≠ c (fr s) ∧ ∀ i e, i < nt → tt i = some e → c (fr i) = c e)
theorem FST.row {fr : Nat → Nat} {tt : Nat → Option Nat} {nt : Nat} (h : FST fr tt nt) : ∀ r b, r < nt → tt r = some b → ∃ c : Nat → Bool, c (fr r) ≠ c b ∧ ∀ i e, i < nt → i ≠ r → tt i = some e → c (fr i) = c e := h.1
theorem FST.mem {fr : Nat → Nat} {tt : Nat → Option Nat} {nt : Nat} (h : FST fr tt nt) : ∀ r s, r < nt → s < nt → r ≠ s → tt r = none → tt s = none → ∃ c : Nat → Bool, c (fr r) ≠ c (fr s) ∧ ∀ i e, i < nt → tt i = some e → c (fr i) = c e := h.2
/-- the order: of all dates, parents first, over all rows in force -/
abbrev FO (fr : Nat → Nat) (tt : Nat → Option Nat) (nf : Nat → Bool) (nt N x : Nat) (k : KQ) (hm : Nat) : Prop :=
  (k.2.2.2.2 = N) ∧
  (∀ j, j < N → k.2.2.2.1 j < N) ∧
  (∀ d, d < N → ∃ j, j < N ∧ k.2.2.2.1 j = d) ∧
  (∀ i j, i < N → j < N → k.2.2.2.1 i = k.2.2.2.1 j → i = j) ∧
  (∀ j, j < N → ∀ e, k.2.1 (k.2.2.2.1 j) = some e → ∃ j1, j1 < j ∧ k.2.2.2.1 j1 = e ∧ ∃ i, i < nt ∧ k.2.2.1 (k.2.2.2.1 j) = some i ∧ oth fr tt nf i e = some (k.2.2.2.1 j)) ∧
  (∀ i e, i < nt → nf i = true → tt i = some e → ∃ j p, j < N ∧ k.2.1 (k.2.2.2.1 j) = some p ∧ k.2.2.1 (k.2.2.2.1 j) = some i) ∧
  (1 ≤ hm) ∧
  (hm ≤ N) ∧
  (k.2.2.2.1 0 = x ∧ k.2.1 x = none) ∧
  (∀ j, 1 ≤ j → j < hm → k.2.1 (k.2.2.2.1 j) ≠ none) ∧
  (∀ i j, i < nt → hm ≤ j → j < N → memO fr tt nf i = some (k.2.2.2.1 j) → k.2.1 (k.2.2.2.1 j) = none) ∧
  (∀ i i1 j j1, i < nt → i1 < nt → j < hm → j1 < hm → memO fr tt nf i = some (k.2.2.2.1 j) → memO fr tt nf i1 = some (k.2.2.2.1 j1) → j = j1)
theorem FO.q {fr : Nat → Nat} {tt : Nat → Option Nat} {nf : Nat → Bool} {nt N x : Nat} {k : KQ} {hm : Nat} (h : FO fr tt nf nt N x k hm) : k.2.2.2.2 = N := h.1
theorem FO.lt {fr : Nat → Nat} {tt : Nat → Option Nat} {nf : Nat → Bool} {nt N x : Nat} {k : KQ} {hm : Nat} (h : FO fr tt nf nt N x k hm) : ∀ j, j < N → k.2.2.2.1 j < N := h.2.1
theorem FO.ex {fr : Nat → Nat} {tt : Nat → Option Nat} {nf : Nat → Bool} {nt N x : Nat} {k : KQ} {hm : Nat} (h : FO fr tt nf nt N x k hm) : ∀ d, d < N → ∃ j, j < N ∧ k.2.2.2.1 j = d := h.2.2.1
theorem FO.inj {fr : Nat → Nat} {tt : Nat → Option Nat} {nf : Nat → Bool} {nt N x : Nat} {k : KQ} {hm : Nat} (h : FO fr tt nf nt N x k hm) : ∀ i j, i < N → j < N → k.2.2.2.1 i = k.2.2.2.1 j → i = j := h.2.2.2.1
theorem FO.pa {fr : Nat → Nat} {tt : Nat → Option Nat} {nf : Nat → Bool} {nt N x : Nat} {k : KQ} {hm : Nat} (h : FO fr tt nf nt N x k hm) : ∀ j, j < N → ∀ e, k.2.1 (k.2.2.2.1 j) = some e → ∃ j1, j1 < j ∧ k.2.2.2.1 j1 = e ∧ ∃ i, i < nt ∧ k.2.2.1 (k.2.2.2.1 j) = some i ∧ oth fr tt nf i e = some (k.2.2.2.1 j) := h.2.2.2.2.1
theorem FO.ch {fr : Nat → Nat} {tt : Nat → Option Nat} {nf : Nat → Bool} {nt N x : Nat} {k : KQ} {hm : Nat} (h : FO fr tt nf nt N x k hm) : ∀ i e, i < nt → nf i = true → tt i = some e → ∃ j p, j < N ∧ k.2.1 (k.2.2.2.1 j) = some p ∧ k.2.2.1 (k.2.2.2.1 j) = some i := h.2.2.2.2.2.1
theorem FO.h1 {fr : Nat → Nat} {tt : Nat → Option Nat} {nf : Nat → Bool} {nt N x : Nat} {k : KQ} {hm : Nat} (h : FO fr tt nf nt N x k hm) : 1 ≤ hm := h.2.2.2.2.2.2.1
theorem FO.hN {fr : Nat → Nat} {tt : Nat → Option Nat} {nf : Nat → Bool} {nt N x : Nat} {k : KQ} {hm : Nat} (h : FO fr tt nf nt N x k hm) : hm ≤ N := h.2.2.2.2.2.2.2.1
theorem FO.r0 {fr : Nat → Nat} {tt : Nat → Option Nat} {nf : Nat → Bool} {nt N x : Nat} {k : KQ} {hm : Nat} (h : FO fr tt nf nt N x k hm) : k.2.2.2.1 0 = x ∧ k.2.1 x = none := h.2.2.2.2.2.2.2.2.1
theorem FO.home {fr : Nat → Nat} {tt : Nat → Option Nat} {nf : Nat → Bool} {nt N x : Nat} {k : KQ} {hm : Nat} (h : FO fr tt nf nt N x k hm) : ∀ j, 1 ≤ j → j < hm → k.2.1 (k.2.2.2.1 j) ≠ none := h.2.2.2.2.2.2.2.2.2.1
theorem FO.mem {fr : Nat → Nat} {tt : Nat → Option Nat} {nf : Nat → Bool} {nt N x : Nat} {k : KQ} {hm : Nat} (h : FO fr tt nf nt N x k hm) : ∀ i j, i < nt → hm ≤ j → j < N → memO fr tt nf i = some (k.2.2.2.1 j) → k.2.1 (k.2.2.2.1 j) = none := h.2.2.2.2.2.2.2.2.2.2.1
theorem FO.one {fr : Nat → Nat} {tt : Nat → Option Nat} {nf : Nat → Bool} {nt N x : Nat} {k : KQ} {hm : Nat} (h : FO fr tt nf nt N x k hm) : ∀ i i1 j j1, i < nt → i1 < nt → j < hm → j1 < hm → memO fr tt nf i = some (k.2.2.2.1 j) → memO fr tt nf i1 = some (k.2.2.2.1 j1) → j = j1 := h.2.2.2.2.2.2.2.2.2.2.2
section
variable {fr : Nat → Nat} {tt : Nat → Option Nat} {nf : Nat → Bool} {nt N : Nat}
theorem memO_iff {i d : Nat} : memO fr tt nf i = some d ↔ nf i = true ∧ tt i = none ∧ fr i = d := by
  unfold memO
  by_cases q : nf i = true
  · rw [if_pos q]
    cases ht : tt i with
    | none => exact ⟨fun h => ⟨q, rfl, Option.some.inj h⟩, fun h => by rw [← h.2.2]⟩
    | some x => exact ⟨fun h => (by cases h), fun h => (by cases h.2.1)⟩
  · rw [if_neg q]; exact ⟨fun h => (by cases h), fun h => absurd h.1 q⟩
theorem oth_keep {i d e : Nat} {c : Nat → Bool} (h : oth fr tt nf i d = some e) (hc : ∀ x, tt i = some x → c (fr i) = c x) : c d = c e := by
  obtain ⟨h1, b, h2, h3⟩ := oth_iff.mp h
  have h4 := hc b h2
  rcases h3 with ⟨a1, a2⟩ | ⟨a0, a1, a2⟩
  · rw [← a1, ← a2]; exact h4
  · rw [← a1, ← a2]; exact h4.symm
def rkept (fr : Nat → Nat) (tt : Nat → Option Nat) (nt : Nat) (c : Nat → Bool) : Prop := ∀ i e, i < nt → tt i = some e → c (fr i) = c e
theorem BI.kept {k : KQ} (h : BI fr tt nf nt N k) {c : Nat → Bool} (hc : rkept fr tt nt c) : kept N k c := by
  intro d e hd hs hp
  obtain ⟨j, hj, rfl⟩ := h.ex d hd hs
  obtain ⟨j1, hj1, h2, i, hi, h3, h4⟩ := h.pa j hj e hp
  exact (oth_keep h4 (fun x hx => hc i x hi hx)).symm
theorem GI_clr (hN : N ≤ 6) (hT : TN fr tt nt N) (k : KQ) : GI fr tt nf nt N (clrK k) := by
  have h0 : ∀ d, d < N → (clrK k).1 d = false := fun d hd => by show noB 6 k.1 d = false; unfold noB; rw [if_pos (by omega)]
  refine ⟨⟨fun j hj => absurd hj (Nat.not_lt_zero j), fun d hd hs => ?_, fun i j hi => absurd hi (Nat.not_lt_zero i), fun j hj => absurd hj (Nat.not_lt_zero j)⟩, fun j _ hj => absurd hj (Nat.not_lt_zero j), fun c _ i d e hi he hs => ?_⟩
  · rw [h0 d hd] at hs; cases hs
  · rw [h0 d (oth_ltN hT hi he).2.1] at hs; cases hs
theorem SG.ext {k k1 : KQ} {b x : Nat} (hB : BI fr tt nf nt N k) (h : SG k b x) (hx : BX k k1) : ∀ j, b ≤ j → j < k.2.2.2.2 → (j = b ∧ k1.2.2.2.1 j = x ∧ k1.2.1 x = none) ∨ (b < j ∧ ∃ e j1, k1.2.1 (k1.2.2.2.1 j) = some e ∧ b ≤ j1 ∧ j1 < j ∧ k1.2.2.2.1 j1 = e) := by
  intro j h1 h2
  have hs := (hB.lt j h2).2
  rw [hx.od j h2]
  rcases h j h1 h2 with ⟨a1, a2, a3⟩ | ⟨a1, e1, j2, a2, a3, a4, a5⟩
  · refine Or.inl ⟨a1, a2, ?_⟩
    rw [← a2, (hx.pa _ hs).1, a2]; exact a3
  · exact Or.inr ⟨a1, e1, j2, by rw [(hx.pa _ hs).1]; exact a2, a3, a4, by rw [hx.od j2 (by omega)]; exact a5⟩
/-- the members' trees -/
theorem qM_spec (hN : N ≤ 6) (hT : TN fr tt nt N) (hF : FST fr tt nt) {k : KQ} (h : GI fr tt nf nt N k) : ∀ n, n ≤ nt → GI fr tt nf nt N (qM fr tt nf nt k n) ∧ BX k (qM fr tt nf nt k n) ∧ (∀ j, k.2.2.2.2 ≤ j → j < (qM fr tt nf nt k n).2.2.2.2 → ∃ i m, i < n ∧ memO fr tt nf i = some m ∧ ∀ c, rkept fr tt nt c → c ((qM fr tt nf nt k n).2.2.2.1 j) = c m) ∧ (∀ i m, i < n → memO fr tt nf i = some m → (qM fr tt nf nt k n).1 m = true ∧ ((qM fr tt nf nt k n).2.1 m = none ∨ k.1 m = true)) := by
  intro n
  induction n with
  | zero => intro _; exact ⟨h, BX.rf k, fun j h1 h2 => by have : j < k.2.2.2.2 := h2; omega, fun i m hi => by omega⟩
  | succ n ih =>
    intro hn
    obtain ⟨h1, h2, h3, h4⟩ := ih (by omega)
    cases q : memO fr tt nf n with
    | none =>
      rw [qM_none q]
      refine ⟨h1, h2, fun j a b => ?_, fun i m hi hm => ?_⟩
      · obtain ⟨i, m, hi, hm, hc⟩ := h3 j a b
        exact ⟨i, m, by omega, hm, hc⟩
      · by_cases q2 : i = n
        · rw [q2, q] at hm; cases hm
        · exact h4 i m (by omega) hm
    | some m0 =>
      rw [qM_some q]
      obtain ⟨f1, f2, f3⟩ := memO_iff.mp q
      have hm0 : m0 < N := f3 ▸ (hT n (by omega)).1
      obtain ⟨g1, g2, g3, g4⟩ := qT_spec hN hT h1 hm0
      refine ⟨g1, h2.tr g2, fun j a b => ?_, fun i m hi hm => ?_⟩
      · by_cases q2 : j < (qM fr tt nf nt k n).2.2.2.2
        · obtain ⟨i, m, hi, hm, hc⟩ := h3 j a q2
          refine ⟨i, m, by omega, hm, fun c h => ?_⟩
          rw [g2.od j q2]; exact hc c h
        · cases q3 : (qM fr tt nf nt k n).1 m0 with
          | true => rw [qT_seen q3] at b; omega
          | false =>
            refine ⟨n, m0, by omega, q, fun c hc => ?_⟩
            exact SG.same g1.b (g4 q3).1 (g1.b.kept hc) (j + 1) j (by omega) (by omega) b
      · by_cases q2 : i = n
        · rw [q2, q] at hm
          cases hm
          refine ⟨g3, ?_⟩
          cases q3 : (qM fr tt nf nt k n).1 m0 with
          | true =>
            rw [qT_seen q3]
            refine Or.inr ?_
            obtain ⟨j, hj1, hj2⟩ := h1.b.ex m0 hm0 q3
            by_cases q4 : j < k.2.2.2.2
            · rw [← hj2, h2.od j q4]; exact (h.b.lt j q4).2
            · obtain ⟨i2, m2, hi2, hm2, hc⟩ := h3 j (by omega) hj1
              obtain ⟨f4, f5, f6⟩ := memO_iff.mp hm2
              obtain ⟨c, hc1, hc2⟩ := hF.mem n i2 (by omega) (by omega) (by omega) f2 f5
              have := hc c hc2
              rw [hj2, ← f3, ← f6] at this
              exact absurd this hc1
          | false =>
            obtain ⟨e1, e2⟩ := g4 q3
            rcases e1 _ (Nat.le_refl _) e2 with ⟨_, _, a3⟩ | ⟨a1, _⟩
            · exact Or.inl a3
            · omega
        · obtain ⟨e1, e2⟩ := h4 i m (by omega) hm
          refine ⟨g2.se m e1, e2.elim (fun e => Or.inl ?_) Or.inr⟩
          rw [(g2.pa m e1).1]; exact e
theorem qA_spec (hN : N ≤ 6) (hT : TN fr tt nt N) {k : KQ} (h : GI fr tt nf nt N k) : ∀ n, n ≤ N → GI fr tt nf nt N (qA fr tt nf nt k n) ∧ BX k (qA fr tt nf nt k n) ∧ ∀ d, d < n → (qA fr tt nf nt k n).1 d = true := by
  intro n
  induction n with
  | zero => intro _; exact ⟨h, BX.rf k, fun d hd => by omega⟩
  | succ n ih =>
    intro hn
    obtain ⟨h1, h2, h3⟩ := ih (by omega)
    obtain ⟨g1, g2, g3, g4⟩ := qT_spec hN hT h1 (show n < N by omega)
    refine ⟨g1, h2.tr g2, fun d hd => ?_⟩
    by_cases q : d = n
    · rw [q]; exact g3
    · exact g2.se d (h3 d (by omega))
theorem ord_FO (hN : N ≤ 6) (hT : TN fr tt nt N) (hF : FST fr tt nt) (k : KQ) {x : Nat} (hx : x < N) : FO fr tt nf nt N x (ordK fr tt nf nt k x N) (ordH fr tt nf nt k x).2.2.2.2 := by
  have h0 := GI_clr (nf := nf) hN hT k
  obtain ⟨a1, a2, a3, a4⟩ := qT_spec hN hT h0 hx
  obtain ⟨a4, a5⟩ := a4 (by show noB 6 k.1 x = false; unfold noB; rw [if_pos (by omega)])
  obtain ⟨b1, b2, b3, b4⟩ := qM_spec hN hT hF a1 nt (Nat.le_refl _)
  obtain ⟨c1, c2, c3⟩ := qA_spec hN hT b1 N (Nat.le_refl _)
  have hX := b2.tr c2
  show FO fr tt nf nt N x (qA fr tt nf nt (qM fr tt nf nt (qT fr tt nf nt (clrK k) x) nt) N) (qT fr tt nf nt (clrK k) x).2.2.2.2
  generalize hK : qA fr tt nf nt (qM fr tt nf nt (qT fr tt nf nt (clrK k) x) nt) N = K at c1 c2 c3 hX ⊢
  have hq : K.2.2.2.2 = N := by
    refine Nat.le_antisymm c1.b.le (Nat.not_lt.mp (fun q => ?_))
    -- every date has a place
    have hp : ∀ d, ∃ j, d < N → (j < K.2.2.2.2 ∧ K.2.2.2.1 j = d) := fun d => by
      by_cases q : d < N
      · obtain ⟨j, hj⟩ := c1.b.ex d q (c3 d q)
        exact ⟨j, fun _ => hj⟩
      · exact ⟨0, fun q2 => absurd q2 q⟩
    have := pigeon (q := N) (m := K.2.2.2.2) (f := fun d => Classical.choose (hp d)) (fun d hd => (Classical.choose_spec (hp d) hd).1) (fun i j hi hj e => by
      rw [← (Classical.choose_spec (hp i) hi).2, ← (Classical.choose_spec (hp j) hj).2]
      have e : Classical.choose (hp i) = Classical.choose (hp j) := e
      rw [e])
    omega
  have hsx : ∀ c, rkept fr tt nt c → ∀ j, j < (qT fr tt nf nt (clrK k) x).2.2.2.2 → c (K.2.2.2.1 j) = c x := fun c hc j hj => by
    rw [hX.od j hj]
    exact SG.same a1.b a4 (a1.b.kept hc) (j + 1) j (by omega) (Nat.zero_le _) hj
  have h1 : 1 ≤ (qT fr tt nf nt (clrK k) x).2.2.2.2 := a5
  refine ⟨hq, fun j hj => (c1.b.lt j (by omega)).1, fun d hd => ?_, fun i j hi hj => c1.b.inj i j (by omega) (by omega), fun j hj => c1.b.pa j (by omega), fun i e hi hf he => ?_, h1, hq ▸ hX.q, ?_, fun j hj1 hj2 => ?_, fun i j hi hj1 hj2 hm => ?_, fun i i1 j j1 hi hi1 hj hj1 hm hm1 => ?_⟩
  · obtain ⟨j, hj, hjd⟩ := c1.b.ex d hd (c3 d hd)
    exact ⟨j, by omega, hjd⟩
  · refine Classical.byContradiction (fun hno => ?_)
    obtain ⟨c, hc1, hc2⟩ := hF.row i e hi he
    have hth : oth fr tt nf i (fr i) = some e := oth_iff.mpr ⟨hf, e, he, Or.inl ⟨rfl, rfl⟩⟩
    refine hc1 (c1.te c (fun d p hd hs hp => ?_) i (fr i) e hi hth (c3 _ (hT i hi).1))
    obtain ⟨j, hj, rfl⟩ := c1.b.ex d hd hs
    obtain ⟨j1, hj1, h2, i1, hi1, h3, h4⟩ := c1.b.pa j hj p hp
    refine (oth_keep h4 (fun y hy => hc2 i1 y hi1 (fun q => hno ⟨j, p, by omega, hp, by rw [← q]; exact h3⟩) hy)).symm
  · rcases SG.ext a1.b a4 hX 0 (Nat.le_refl _) a5 with ⟨_, e2, e3⟩ | ⟨e1, _⟩
    · exact ⟨e2, e3⟩
    · exact absurd e1 (Nat.lt_irrefl _)
  · rcases SG.ext a1.b a4 hX j (Nat.zero_le _) hj2 with ⟨e1, _⟩ | ⟨_, e, j1, e2, _⟩
    · have e1 : j = 0 := e1
      omega
    · rw [e2]; exact fun q => by cases q
  · obtain ⟨e1, e2⟩ := b4 i _ hi hm
    rcases e2 with e2 | e2
    · rw [(c2.pa _ e1).1]; exact e2
    · obtain ⟨j2, hj3, hj4⟩ := a1.b.ex _ (c1.b.lt j (by omega)).1 e2
      have : j2 = j := c1.b.inj j2 j (Nat.lt_of_lt_of_le hj3 hX.q) (by omega) (by rw [hX.od j2 hj3]; exact hj4)
      omega
  · by_cases q : i = i1
    · rw [q, hm1] at hm
      exact c1.b.inj j j1 (Nat.lt_of_lt_of_le hj hX.q) (Nat.lt_of_lt_of_le hj1 hX.q) (Option.some.inj hm).symm
    · obtain ⟨f1, f2, f3⟩ := memO_iff.mp hm
      obtain ⟨g1, g2, g3⟩ := memO_iff.mp hm1
      obtain ⟨c, hc1, hc2⟩ := hF.mem i i1 hi hi1 q f2 g2
      refine absurd ?_ hc1
      rw [f3, g3, hsx c hc2 j hj, hsx c hc2 j1 hj1]
end
