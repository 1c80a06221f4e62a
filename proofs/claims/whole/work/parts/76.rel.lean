/-! The class's telling and the reference's: one sum -/
theorem WS_rows {u v le mo u1 v1 le1 mo1 : Nat → Nat} {R : Nat → Bool} {N nt : Nat} {mem o0 o1 : Nat → Bool} {W : Nat → Nat → Nat} (h : ∀ i, i < nt → R i = true → u i = u1 i ∧ v i = v1 i ∧ le i = le1 i ∧ mo i = mo1 i) : WS u v le mo R N nt mem o0 o1 W = WS u1 v1 le1 mo1 R N nt mem o0 o1 W := by
  unfold WS EE
  refine asum_congr yOk_Z0 (fun g hg => ?_)
  have e2 : pR u v le mo R g nt = pR u1 v1 le1 mo1 R g nt := pr_congr (fun i hi => by
    by_cases q : R i = true
    · obtain ⟨h1, h2, h3, h4⟩ := h i hi q
      rw [if_pos q, if_pos q]; unfold rk; rw [h1, h2, h3, h4]
    · rw [if_neg q, if_neg q])
  rw [e2]
/-- the class's numbers are the reference's -/
abbrev RL (wt : Nat → Nat → Nat) (ab be fr : Nat → Nat) (tt : Nat → Option Nat) (le mo : Nat → Nat) (nt nm : Nat) (mwt mab mbe on1 ot2 lea mos : Nat → Nat) : Prop :=
  (∀ d, d < 6 → ∀ y, y < 12 → wt d y = mwt (12 * d + y)) ∧ (∀ d, d < 6 → ab d = mab d ∧ be d = mbe d) ∧ (∀ i, i < nt → fr i = on1 i ∧ tt i = mtt on1 ot2 i ∧ le i = lea i ∧ mo i = mos i) ∧ nm = mct on1 ot2 nt
section RLS
variable {wt : Nat → Nat → Nat} {ab be fr : Nat → Nat} {tt : Nat → Option Nat} {le mo : Nat → Nat} {nt nm nd : Nat} {mwt mab mbe on1 ot2 lea mos : Nat → Nat} {nf im : Nat → Bool} {cn : Nat}
theorem rl_sum (hR : RL wt ab be fr tt le mo nt nm mwt mab mbe on1 ot2 lea mos) (hd6 : nd ≤ 6) (hnf : ∀ i, i < nt → nf i = cn.testBit i) {o0 o1 p0 p1 : Nat → Bool} {W V : Nat → Nat → Nat} (hW : ∀ d y, d < nd → y < 12 → W d y = V d y) (h0 : ∀ y, y < 12 → o0 y = p0 y) (h1 : ∀ y, y < 12 → o1 y = p1 y) :
    WS fr (xv tt) le mo (xR tt nf) nd nt (imU fr tt nf im nt) o0 o1 W = WS on1 ot2 lea mos (fun i => (lfU cn on1 ot2 nt).testBit i) nd nt (fun d => (mbU cn on1 ot2 nt).testBit d) p0 p1 V := by
  have hrow : ∀ i, i < nt → xR tt nf i = true → fr i = on1 i ∧ xv tt i = ot2 i ∧ le i = lea i ∧ mo i = mos i := by
    intro i hi hr
    obtain ⟨g1, g2, g3, g4⟩ := hR.2.2.1 i hi
    unfold xR at hr
    rw [g2, Bool.and_eq_true] at hr
    refine ⟨g1, ?_, g3, g4⟩
    unfold xv
    rw [g2]
    by_cases q : on1 i = ot2 i
    · rw [mtt_n.mpr q] at hr; exact absurd hr.2 (by decide)
    · rw [mtt_s.mpr ⟨q, rfl⟩]; rfl
  rw [WS_rows hrow]
  refine WS_congr hW (fun i hi => ?_) (fun d hd => ?_) h0 h1
  · obtain ⟨g1, g2, g3, g4⟩ := hR.2.2.1 i hi
    rw [Bool.eq_iff_iff, lfU_bit]
    unfold xR
    rw [g2, hnf i hi, Bool.and_eq_true]
    constructor
    · rintro ⟨a1, a2⟩
      refine ⟨hi, a1, fun q => ?_⟩
      rw [mtt_n.mpr q] at a2; exact absurd a2 (by decide)
    · rintro ⟨-, a1, a2⟩
      refine ⟨a1, ?_⟩
      rw [mtt_s.mpr ⟨a2, rfl⟩]; rfl
  · rw [Bool.eq_iff_iff, imU_iff (by omega), mbU_bit]
    constructor
    · rintro ⟨i, hi, a⟩
      obtain ⟨a1, a2, a3⟩ := memO_iff.mp a
      obtain ⟨g1, g2, g3, g4⟩ := hR.2.2.1 i hi
      exact ⟨i, hi, by rw [← hnf i hi]; exact a1, mtt_n.mp (by rw [← g2]; exact a2), by rw [← g1]; exact a3⟩
    · rintro ⟨i, hi, a1, a2, a3⟩
      obtain ⟨g1, g2, g3, g4⟩ := hR.2.2.1 i hi
      exact ⟨i, hi, memO_iff.mpr ⟨by rw [hnf i hi]; exact a1, by rw [g2]; exact mtt_n.mpr a2, by rw [g1]; exact a3⟩⟩
theorem rl_TN (hR : RL wt ab be fr tt le mo nt nm mwt mab mbe on1 ot2 lea mos) (h : TN on1 (mtt on1 ot2) nt nd) : TN fr tt nt nd := fun i hi => by
  obtain ⟨g1, g2, -, -⟩ := hR.2.2.1 i hi
  rw [g1, g2]; exact h i hi
theorem rl_FST (hR : RL wt ab be fr tt le mo nt nm mwt mab mbe on1 ot2 lea mos) (h : FST on1 (mtt on1 ot2) nt) : FST fr tt nt := by
  refine ⟨fun r b hr hb => ?_, fun r s hr hs hrs h1 h2 => ?_⟩
  · obtain ⟨c, a1, a2⟩ := h.1 r b hr (by rw [← (hR.2.2.1 r hr).2.1]; exact hb)
    refine ⟨c, by rw [(hR.2.2.1 r hr).1]; exact a1, fun i e hi hne he => ?_⟩
    rw [(hR.2.2.1 i hi).1]
    exact a2 i e hi hne (by rw [← (hR.2.2.1 i hi).2.1]; exact he)
  · obtain ⟨c, a1, a2⟩ := h.2 r s hr hs hrs (by rw [← (hR.2.2.1 r hr).2.1]; exact h1) (by rw [← (hR.2.2.1 s hs).2.1]; exact h2)
    refine ⟨c, by rw [(hR.2.2.1 r hr).1, (hR.2.2.1 s hs).1]; exact a1, fun i e hi he => ?_⟩
    rw [(hR.2.2.1 i hi).1]
    exact a2 i e hi (by rw [← (hR.2.2.1 i hi).2.1]; exact he)
theorem rl_cnt (hR : RL wt ab be fr tt le mo nt nm mwt mab mbe on1 ot2 lea mos) {d y : Nat} (hd : d < 6) (hy : y < 12) : cnt wt ab be d y = cnt (mw2 mwt) mab mbe d y := by
  unfold cnt
  rw [(hR.2.1 d hd).1, (hR.2.1 d hd).2, hR.1 d hd y hy, sm_congr (fun z hz => hR.1 d hd z hz)]
theorem rl_DOK (hR : RL wt ab be fr tt le mo nt nm mwt mab mbe on1 ot2 lea mos) (h : DOK (mw2 mwt) mab mbe nd) : DOK wt ab be nd := by
  refine ⟨h.1, fun d hd => ?_⟩
  obtain ⟨a1, a2, a3⟩ := h.2 d hd
  have hd6 : d < 6 := Nat.lt_of_lt_of_le hd h.1
  rw [(hR.2.1 d hd6).1, (hR.2.1 d hd6).2]
  exact ⟨a1, a2, fun y hy => by rw [hR.1 d hd6 y hy]; exact a3 y hy⟩
theorem TN.tok (hd6 : nd ≤ 6) (hn6 : nt ≤ 6) (h : TN fr tt nt nd) : TOK fr tt nt := ⟨hn6, fun i hi => ⟨Nat.lt_of_lt_of_le (h i hi).1 hd6, fun d hd => Nat.lt_of_lt_of_le ((h i hi).2 d hd).1 hd6⟩⟩
theorem rl_ROK (hR : RL wt ab be fr tt le mo nt nm mwt mab mbe on1 ot2 lea mos) (h : MOK on1 ot2 lea mos nt) : ROK fr le mo nt := by
  refine ⟨h.1, fun i hi => ?_⟩
  obtain ⟨g1, -, g3, g4⟩ := hR.2.2.1 i hi
  obtain ⟨a1, a2, a3, a4⟩ := h.2 i hi
  rw [g1, g3, g4]; exact ⟨a1, a3, a4⟩
theorem FO.kpa {x hm : Nat} {k : KQ} (hd6 : nd ≤ 6) (h : FO fr tt nf nt nd x k hm) : KPA fr nt k := by
  intro j hj u hu
  rw [h.q] at hj
  obtain ⟨j1, a1, a2, i, a3, a4, -⟩ := h.pa j hj u hu
  have a5 := h.lt j1 (by omega)
  refine ⟨by rw [← a2]; omega, fun q => ?_, i, a4, a3⟩
  have := h.inj j j1 hj (by omega) (by rw [a2]; exact q)
  omega
end RLS
/-- the state of an OrderPassing between two calls, by the reference's numbers -/
def XM (ca : Nat → ClassId) (b : Nat) (C : Nat → va_E) (nd nt : Nat) (mwt mab mbe on1 ot2 lea mos : Nat → Nat) : Prop :=
  ∃ (wt : Nat → Nat → Nat) (ab be fr : Nat → Nat) (tt : Nat → Option Nat) (le mo : Nat → Nat) (nf : Nat → Bool) (tr : Nat → Nat) (nm : Nat) (fy fb : Nat → Option Nat) (k : KQ) (im : Nat → Bool) (hm : Nat) (S : Nat → Nat → Nat) (I P : Nat → Nat) (pt ap fa wh st : Nat),
    XS ca b C wt ab be nd fr tt le mo nf tr nt nm fy fb k.2.2.2.1 k.2.1 k.2.2.1 k.1 im k.2.2.2.2 hm (gvOf S I P pt ap fa wh st) ∧ RL wt ab be fr tt le mo nt nm mwt mab mbe on1 ot2 lea mos ∧ (∀ i, i < nt → nf i = true) ∧ (∀ d, d < 6 → fy d = none) ∧ ∀ w, w < 2 → fb w = none
theorem Met.post {l : Launch} {y : MethodName} {ws : List Cond} {rm : Room} {D : va_G} {ca : Nat → ClassId} {b N : Nat} {C : Nat → va_E} {av : List Value} {post post1 : Option Value → (Nat → va_E) → Prop} (h : Met l y ws rm (xPc D ca b N C av) (xQ D b N post) 0 0 (xr b N)) (hq : ∀ v C1, post v C1 → post1 v C1) : Met l y ws rm (xPc D ca b N C av) (xQ D b N post1) 0 0 (xr b N) :=
  MetFree.mono h (fun _ _ h => h) (fun _ _ _ _ _ h => h) (fun _ _ _ _ _ hQ => by
    obtain ⟨⟨⟨v, C1, a1, a2, a3⟩, a4⟩, a5⟩ := hQ
    exact ⟨⟨⟨v, C1, a1, hq v C1 a2, a3⟩, a4⟩, a5⟩)
/-- the sums passed to a date, by the reference's numbers -/
theorem c_PA_passR (l : Launch) (D : va_G) (ca : Nat → ClassId) (b : Nat) (C0 : Nat → va_E) {wt : Nat → Nat → Nat} {ab be : Nat → Nat} {nd : Nat} {fr : Nat → Nat} {tt : Nat → Option Nat} {le mo : Nat → Nat} {nf : Nat → Bool} {tr : Nat → Nat} {nt nm : Nat} {fy fb : Nat → Option Nat} {im : Nat → Bool} {hm : Nat} {S : Nat → Nat → Nat} {I P : Nat → Nat} {pt ap fa wh st : Nat} {k : KQ} {mwt mab mbe on1 ot2 lea mos : Nat → Nat} (x cn fs ls : Nat) (VV : Nat → Nat → Nat → Nat)
    (hX : XS ca b C0 wt ab be nd fr tt le mo nf tr nt nm fy fb k.2.2.2.1 k.2.1 k.2.2.1 k.1 im k.2.2.2.2 hm (gvOf S I P pt ap fa wh st)) (hH : MH on1 ot2 lea mos mwt mab mbe nt nd) (hR : RL wt ab be fr tt le mo nt nm mwt mab mbe on1 ot2 lea mos) (hx6 : x < nd) (hnf : ∀ i, i < nt → nf i = cn.testBit i)
    (hfy : ∀ d, d < nd → ∀ y, fy d = some y → y < 2 ^ 31) (hfb : ∀ w, w < 2 → ∀ y, fb w = some y → y < 2 ^ 31) (hW : ∀ y, y < 12 → ∀ d z, d < nd → z < 12 → fixW (s0 wt ab be fy) x y d z = VV y d z) (h0 : ∀ y, y < 12 → oB fb 0 y = fs.testBit y) (h1 : ∀ y, y < 12 → oB fb 1 y = ls.testBit y) :
    Met l y_PA_passTo (k_PA_passTo :: gw) ({ frames := 5, cells := 0, slots := 0, locals := 128 }) (xPc D ca b 219 C0 [.ref (b + 18), .int (nI x), .ref (b + 1), .ref (b + 11)]) (xQ D b 219 (fun r C1 => r = none ∧ ∃ (k1 : KQ) (im1 : Nat → Bool) (hm1 : Nat) (S1 : Nat → Nat → Nat) (f1 : Nat) (I1 P1 : Nat → Nat) (p1 a1 : Nat), XS ca b C1 wt ab be nd fr tt le mo nf tr nt nm (clrO 6 fy) (clrO 2 fb) k1.2.2.2.1 k1.2.1 k1.2.2.1 k1.1 im1 k1.2.2.2.2 hm1 (gvOf S1 I1 P1 p1 a1 f1 wh st) ∧ ∀ y, y < 12 → S1 x y = mWS on1 ot2 lea mos nt nd cn fs ls (VV y))) 0 0 (xr b 219) := by
  have hd6 := hH.D.1
  have hT := rl_TN hR hH.T
  have hF := rl_FST hR hH.F
  have hFO := ord_FO (nf := nf) hd6 hT hF k hx6
  refine Met.post (c_PA_passTo l D ca b C0 k x hX (TN.tok hd6 hH.M.1 hT) (rl_DOK hR hH.D) (rl_ROK hR hH.M) hx6 hfy hfb (hFO.kpa hd6) hFO.h1 (by rw [hFO.q]; exact hFO.hN)) ?_
  rintro v C1 ⟨rfl, f1, I1, P1, p1, a1, hX1⟩
  refine ⟨rfl, _, _, _, _, f1, I1, P1, p1, a1, hX1, fun y hy => ?_⟩
  unfold rowS
  rw [va_up_self]
  simp only [if_pos hy]
  rw [passed hd6 hT hF k hx6 im fb fy I P S wt ab be hy]
  exact rl_sum hR hd6 hnf (hW y hy) h0 h1
