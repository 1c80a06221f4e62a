/-! What is told, in the class and in the reference -/
theorem mtt_up (on1 ot2 : Nat → Nat) (n a g : Nat) : mtt (va_up on1 n a) (va_up ot2 n g) = va_up (mtt on1 ot2) n (if a = g then none else some g) := by
  funext i
  by_cases q : i = n
  · subst q; unfold mtt; rw [va_up_self, va_up_self, va_up_self]
  · rw [va_up_ne _ _ q]; unfold mtt; rw [va_up_ne _ _ q, va_up_ne _ _ q]
theorem mct_up (on1 ot2 : Nat → Nat) (n a g : Nat) : mct (va_up on1 n a) (va_up ot2 n g) (n + 1) = mct on1 ot2 n + (if a = g then 1 else 0) := by
  unfold mct
  rw [sm_s, va_up_self, va_up_self]
  congr 1
  exact sm_congr (fun i hi => by rw [va_up_ne _ _ (by omega), va_up_ne _ _ (by omega)])
section TEL
variable {wt : Nat → Nat → Nat} {ab be fr : Nat → Nat} {tt : Nat → Option Nat} {le mo : Nat → Nat} {nt nm nd : Nat} {mwt mab mbe on1 ot2 lea mos : Nat → Nat}
theorem MOK_up (h : MOK on1 ot2 lea mos nt) (hn : nt < 6) {a g lo hi : Nat} (ha : a < 6) (hg : g < 6) (hlo : lo < 12) (hhi : hi < 12) : MOK (va_up on1 nt a) (va_up ot2 nt g) (va_up lea nt lo) (va_up mos nt hi) (nt + 1) := by
  refine ⟨by omega, fun k hk => ?_⟩
  by_cases q : k = nt
  · subst q; rw [va_up_self, va_up_self, va_up_self, va_up_self]; exact ⟨ha, hg, hlo, hhi⟩
  · rw [va_up_ne _ _ q, va_up_ne _ _ q, va_up_ne _ _ q, va_up_ne _ _ q]; exact h.2 k (by omega)
abbrev exM (on1 ot2 : Nat → Nat) (nt d : Nat) : Prop := ∃ k, k < nt ∧ on1 k = ot2 k ∧ (tOr on1 ot2 nt 6 (2 ^ d)).testBit (on1 k) = true
/-- a row that may be told keeps the forest -/
theorem MH_row (h : MH on1 ot2 lea mos mwt mab mbe nt nd) {a g lo hi : Nat} (ha : a < nd) (hg : g < nd) (hlo : lo < 12) (hhi : hi < 12) (hno : ¬ (tOr on1 ot2 nt 6 (2 ^ a) = tOr on1 ot2 nt 6 (2 ^ g) ∨ (exM on1 ot2 nt a ∧ exM on1 ot2 nt g))) : nt < 6 ∧ MH (va_up on1 nt a) (va_up ot2 nt g) (va_up lea nt lo) (va_up mos nt hi) mwt mab mbe (nt + 1) nd := by
  have hd6 := h.D.1
  have h1 : ¬ conn on1 (mtt on1 ot2) nt a g := fun q => hno (Or.inl ((tOr_eq h.M (by omega) (by omega)).mpr q))
  have h2 : ¬ ((∃ i, i < nt ∧ mtt on1 ot2 i = none ∧ conn on1 (mtt on1 ot2) nt a (on1 i)) ∧ (∃ i, i < nt ∧ mtt on1 ot2 i = none ∧ conn on1 (mtt on1 ot2) nt g (on1 i))) := fun q => hno (Or.inr ⟨(tOr_mem h.M (by omega)).mpr q.1, (tOr_mem h.M (by omega)).mpr q.2⟩)
  have hag : a ≠ g := fun q => h1 (by rw [q]; exact fun _ _ => rfl)
  have hF := h.F.tellRow h1 h2
  have hT := h.T.tell (o := some g) ha (fun b hb => by cases hb; exact ⟨hg, fun q => hag q.symm⟩)
  have hle := FST.le hd6 hT hF
  refine ⟨by omega, MOK_up h.M (by omega) (by omega) (by omega) hlo hhi, h.D, ?_, ?_⟩
  · rw [mtt_up, if_neg hag]; exact hT
  · rw [mtt_up, if_neg hag]; exact hF
theorem MH_mem (h : MH on1 ot2 lea mos mwt mab mbe nt nd) {a : Nat} (ha : a < nd) (hno : ¬ exM on1 ot2 nt a) : nt < 6 ∧ MH (va_up on1 nt a) (va_up ot2 nt a) (va_up lea nt 0) (va_up mos nt 0) mwt mab mbe (nt + 1) nd := by
  have hd6 := h.D.1
  have hF := h.F.tellMem (a := a) (fun q => hno ((tOr_mem h.M (by omega)).mpr q))
  have hT := h.T.tell (o := none) ha (fun b hb => by cases hb)
  have hle := FST.le hd6 hT hF
  refine ⟨by omega, MOK_up h.M (by omega) (by omega) (by omega) (by decide) (by decide), h.D, ?_, ?_⟩
  · rw [mtt_up, if_pos rfl]; exact hT
  · rw [mtt_up, if_pos rfl]; exact hF
theorem rl_conn (hR : RL wt ab be fr tt le mo nt nm mwt mab mbe on1 ot2 lea mos) {d e : Nat} : conn fr tt nt d e ↔ conn on1 (mtt on1 ot2) nt d e := by
  have key : ∀ c : Nat → Bool, rkept fr tt nt c ↔ rkept on1 (mtt on1 ot2) nt c := fun c => by
    constructor
    · intro h i x hi hx
      rw [← (hR.2.2.1 i hi).1]; exact h i x hi (by rw [(hR.2.2.1 i hi).2.1]; exact hx)
    · intro h i x hi hx
      rw [(hR.2.2.1 i hi).1]; exact h i x hi (by rw [← (hR.2.2.1 i hi).2.1]; exact hx)
  exact ⟨fun h c hc => h c ((key c).mpr hc), fun h c hc => h c ((key c).mp hc)⟩
theorem rl_exM (hR : RL wt ab be fr tt le mo nt nm mwt mab mbe on1 ot2 lea mos) (hH : MH on1 ot2 lea mos mwt mab mbe nt nd) (tr : Nat → Nat) {d : Nat} (hd : d < 6) : hasM fr tt (nmT fr tt tr nt) nt (nmT fr tt tr nt d) ↔ exM on1 ot2 nt d := by
  rw [hasM_conn (rl_TN hR hH.T) hH.D.1 tr hd, show exM on1 ot2 nt d ↔ _ from tOr_mem hH.M hd]
  constructor
  · rintro ⟨i, a1, a2, a3⟩
    obtain ⟨g1, g2, -, -⟩ := hR.2.2.1 i a1
    exact ⟨i, a1, by rw [← g2]; exact a2, by rw [← g1]; exact (rl_conn hR).mp a3⟩
  · rintro ⟨i, a1, a2, a3⟩
    obtain ⟨g1, g2, -, -⟩ := hR.2.2.1 i a1
    exact ⟨i, a1, by rw [g2]; exact a2, by rw [g1]; exact (rl_conn hR).mpr a3⟩
theorem rl_join (hR : RL wt ab be fr tt le mo nt nm mwt mab mbe on1 ot2 lea mos) (hH : MH on1 ot2 lea mos mwt mab mbe nt nd) (tr : Nat → Nat) {d f : Nat} (hd : d < 6) (hf : f < 6) : (nmT fr tt tr nt d ≠ nmT fr tt tr nt f ∧ ¬ (hasM fr tt (nmT fr tt tr nt) nt (nmT fr tt tr nt d) ∧ hasM fr tt (nmT fr tt tr nt) nt (nmT fr tt tr nt f))) ↔ ¬ (tOr on1 ot2 nt 6 (2 ^ d) = tOr on1 ot2 nt 6 (2 ^ f) ∨ (exM on1 ot2 nt d ∧ exM on1 ot2 nt f)) := by
  rw [rl_exM hR hH tr hd, rl_exM hR hH tr hf, ne_eq, nmT_conn (rl_TN hR hH.T) hH.D.1 tr hd hf, rl_conn hR, tOr_eq hH.M hd hf, not_or]
theorem RL_tell (hR : RL wt ab be fr tt le mo nt nm mwt mab mbe on1 ot2 lea mos) (a g lo hi : Nat) : RL wt ab be (va_up fr nt a) (va_up tt nt (if a = g then none else some g)) (va_up le nt lo) (va_up mo nt hi) (nt + 1) (nm + (if a = g then 1 else 0)) mwt mab mbe (va_up on1 nt a) (va_up ot2 nt g) (va_up lea nt lo) (va_up mos nt hi) := by
  refine ⟨hR.1, hR.2.1, fun i hi9 => ?_, by rw [mct_up, hR.2.2.2]⟩
  rw [mtt_up]
  by_cases q : i = nt
  · subst q; rw [va_up_self, va_up_self, va_up_self, va_up_self, va_up_self, va_up_self, va_up_self, va_up_self]; exact ⟨rfl, rfl, rfl, rfl⟩
  · rw [va_up_ne _ _ q, va_up_ne _ _ q, va_up_ne _ _ q, va_up_ne _ _ q, va_up_ne _ _ q, va_up_ne _ _ q, va_up_ne _ _ q, va_up_ne _ _ q]; exact hR.2.2.1 i (by omega)
theorem RL_date (hR : RL wt ab be fr tt le mo nt nm mwt mab mbe on1 ot2 lea mos) (d x : Nat) : RL wt ab (va_up be d x) fr tt le mo nt nm mwt mab (va_up mbe d x) on1 ot2 lea mos := by
  refine ⟨hR.1, fun e he => ⟨(hR.2.1 e he).1, ?_⟩, hR.2.2⟩
  by_cases q : e = d
  · subst q; rw [va_up_self, va_up_self]
  · rw [va_up_ne _ _ q, va_up_ne _ _ q]; exact (hR.2.1 e he).2
theorem RL_share (hR : RL wt ab be fr tt le mo nt nm mwt mab mbe on1 ot2 lea mos) (d x y : Nat) : RL wt (va_up ab d x) (va_up be d y) fr tt le mo nt nm mwt (va_up mab d x) (va_up mbe d y) on1 ot2 lea mos := by
  refine ⟨hR.1, fun e he => ?_, hR.2.2⟩
  by_cases q : e = d
  · subst q; rw [va_up_self, va_up_self, va_up_self, va_up_self]; exact ⟨rfl, rfl⟩
  · rw [va_up_ne _ _ q, va_up_ne _ _ q, va_up_ne _ _ q, va_up_ne _ _ q]; exact hR.2.1 e he
theorem RL_weight (hR : RL wt ab be fr tt le mo nt nm mwt mab mbe on1 ot2 lea mos) {d y : Nat} (x : Nat) (hy : y < 12) : RL (va_up wt d (va_up (wt d) y x)) ab be fr tt le mo nt nm (va_up mwt (12 * d + y) x) mab mbe on1 ot2 lea mos := by
  refine ⟨fun e he z hz => ?_, hR.2⟩
  by_cases q : e = d
  · subst q
    rw [va_up_self]
    by_cases q2 : z = y
    · subst q2; rw [va_up_self, va_up_self]
    · rw [va_up_ne _ _ q2, va_up_ne _ _ (by omega)]; exact hR.1 e he z hz
  · rw [va_up_ne _ _ q, va_up_ne _ _ (by omega)]; exact hR.1 e he z hz
theorem MH_date (h : MH on1 ot2 lea mos mwt mab mbe nt nd) (hd : nd < 6) (ha : mab nd = 0) (hw : ∀ y, y < 12 → mwt (12 * nd + y) = 0) : MH on1 ot2 lea mos mwt mab (va_up mbe nd 1) nt (nd + 1) := by
  refine ⟨h.M, ⟨by omega, fun d hd9 => ?_⟩, fun i hi => ?_, h.F⟩
  · by_cases q : d = nd
    · subst q
      rw [va_up_self, ha]
      exact ⟨by decide, by decide, fun y hy => by show mwt (12 * d + y) ≤ 999; rw [hw y hy]; decide⟩
    · rw [va_up_ne _ _ q]; exact h.D.2 d (by omega)
  · obtain ⟨a1, a2⟩ := h.T i hi
    exact ⟨by omega, fun e he => ⟨by have := (a2 e he).1; omega, (a2 e he).2⟩⟩
theorem MH_weight (h : MH on1 ot2 lea mos mwt mab mbe nt nd) {d y x : Nat} (hy : y < 12) (hx : x < 1000) : MH on1 ot2 lea mos (va_up mwt (12 * d + y) x) mab mbe nt nd := by
  refine ⟨h.M, ⟨h.D.1, fun e he => ?_⟩, h.T, h.F⟩
  obtain ⟨a1, a2, a3⟩ := h.D.2 e he
  refine ⟨a1, a2, fun z hz => ?_⟩
  show va_up mwt (12 * d + y) x (12 * e + z) ≤ 999
  by_cases q : 12 * e + z = 12 * d + y
  · rw [q, va_up_self]; omega
  · rw [va_up_ne _ _ q]; exact a3 z hz
theorem MH_share (h : MH on1 ot2 lea mos mwt mab mbe nt nd) {d x y : Nat} (hx : x ≤ y) (hy : y ≤ 10) : MH on1 ot2 lea mos mwt (va_up mab d x) (va_up mbe d y) nt nd := by
  refine ⟨h.M, ⟨h.D.1, fun e he => ?_⟩, h.T, h.F⟩
  by_cases q : e = d
  · subst q; rw [va_up_self, va_up_self]; exact ⟨hx, hy, (h.D.2 e he).2.2⟩
  · rw [va_up_ne _ _ q, va_up_ne _ _ q]; exact h.D.2 e he
end TEL
