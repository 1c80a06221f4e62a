/-! How great the sums are; the years of a date together -/
theorem pr_le {F G : Nat → Nat} {n : Nat} (h : ∀ i, i < n → F i ≤ G i) : pr F n ≤ pr G n := by
  induction n with
  | zero => exact Nat.le_refl _
  | succ n ih => rw [pr_s, pr_s]; exact Nat.mul_le_mul (ih (fun i hi => h i (by omega))) (h n (by omega))
theorem pr_pow (c : Nat) : ∀ n, pr (fun _ => c) n = c ^ n := by
  intro n
  induction n with
  | zero => rfl
  | succ n ih => rw [pr_s, ih, Nat.pow_succ]
theorem sm_const (c : Nat) : ∀ n, sm (fun _ => c) n = n * c := by
  intro n
  induction n with
  | zero => exact (Nat.zero_mul c).symm
  | succ n ih => rw [sm_s, ih, Nat.succ_mul]
theorem pr_le1 {F : Nat → Nat} {n : Nat} (h : ∀ i, i < n → F i ≤ 1) : pr F n ≤ 1 := Nat.le_trans (pr_le (G := fun _ => 1) h) (by rw [pr_pow, Nat.one_pow]; exact Nat.le_refl _)
theorem asum_le {A : Nat → Bool} {P Q : (Nat → Nat) → Nat} (h : ∀ g, yOk g → P g ≤ Q g) : ∀ (n : Nat) (f : Nat → Nat), yOk f → asum A P n f ≤ asum A Q n f := by
  intro n
  induction n with
  | zero => intro f hf; exact h f hf
  | succ n ih =>
    intro f hf
    cases q : A n with
    | true => rw [asum_t q, asum_t q]; exact sm_le (fun y hy => ih _ (yOk_up hf hy))
    | false => rw [asum_f q, asum_f q]; exact ih f hf
theorem phi_le (mem o0 o1 : Nat → Bool) (N : Nat) (g : Nat → Nat) : phi mem o0 o1 N g ≤ 144 := by
  unfold phi
  by_cases q : anyM mem N = true
  · rw [if_pos q]
    refine Nat.le_trans (sm_le (G := fun _ => 1) (fun p _ => ?_)) (by rw [sm_const]; decide)
    by_cases q2 : cB o0 o1 p
    · rw [if_pos q2]
      refine pr_le1 (fun d _ => ?_)
      by_cases q3 : mem d = true
      · rw [if_pos q3]; unfold inB; split <;> omega
      · rw [if_neg q3]; exact Nat.le_refl _
    · rw [if_neg q2]; omega
  · rw [if_neg q]; decide
theorem WS_le {u v le mo : Nat → Nat} {R : Nat → Bool} {N nt : Nat} {mem o0 o1 : Nat → Bool} {W : Nat → Nat → Nat} {w : Nat} (hW : ∀ d y, d < N → y < 12 → W d y ≤ w) : WS u v le mo R N nt mem o0 o1 W ≤ 144 * (12 * w) ^ N := by
  unfold WS EE
  refine Nat.le_trans (asum_le (Q := fun g => 144 * pS (fun _ => true) W g N) (fun g hg => ?_) N Z0 yOk_Z0) ?_
  · have h1 : pR u v le mo R g nt ≤ 1 := pr_le1 (fun i _ => by
      by_cases q : R i = true
      · rw [if_pos q]; unfold rk; split <;> omega
      · rw [if_neg q]; exact Nat.le_refl _)
    have h2 := phi_le mem o0 o1 N g
    calc pS (fun _ => true) W g N * pR u v le mo R g nt * phi mem o0 o1 N g ≤ pS (fun _ => true) W g N * 1 * 144 := Nat.mul_le_mul (Nat.mul_le_mul_left _ h1) h2
      _ = 144 * pS (fun _ => true) W g N := by rw [Nat.mul_one, Nat.mul_comm]
  · rw [asum_mul]
    refine Nat.mul_le_mul_left _ ?_
    have e := asum_prod (A := fun _ => true) (F := W) N Z0 yOk_Z0
    have e2 : asum (fun _ => true) (fun g => pS (fun _ => true) W g N) N Z0 = pr (fun d => if true = true then sm (W d) 12 else 1) N := e
    rw [e2, ← pr_pow (12 * w) N]
    refine pr_le (fun d hd => ?_)
    rw [if_pos rfl]
    refine Nat.le_trans (sm_le (G := fun _ => w) (fun y hy => hW d y hd hy)) (by rw [sm_const]; exact Nat.le_refl _)
theorem WS_lt {u v le mo : Nat → Nat} {R : Nat → Bool} {N nt : Nat} {mem o0 o1 : Nat → Bool} {W : Nat → Nat → Nat} (hN : N ≤ 6) (hW : ∀ d y, d < N → y < 12 → W d y ≤ 119880) : WS u v le mo R N nt mem o0 o1 W < 10 ^ 40 := by
  refine Nat.lt_of_le_of_lt (WS_le hW) ?_
  refine Nat.lt_of_le_of_lt (Nat.mul_le_mul_left 144 (Nat.pow_le_pow_right (show 0 < 12 * 119880 by decide) hN)) (by decide)
theorem WS_years {u v le mo : Nat → Nat} {R : Nat → Bool} {N nt : Nat} {mem o0 o1 : Nat → Bool} {W : Nat → Nat → Nat} {x : Nat} (hx : x < N) : sm (fun y => WS u v le mo R N nt mem o0 o1 (fixW W x y)) 12 = WS u v le mo R N nt mem o0 o1 W := by
  rw [sm_congr (fun y _ => WS_fix (y := y) hx)]
  unfold WS EE
  rw [← asum_sm]
  refine asum_congr yOk_Z0 (fun g hg => ?_)
  rw [sm_mul, sm_mul, sm_one (F := fun y => iot x y g) (hg x) (fun y _ hne => if_neg (fun q => hne q.symm))]
  unfold iot
  rw [if_pos rfl, Nat.mul_one]
theorem fixW_le {W : Nat → Nat → Nat} {x y d z w : Nat} (h : W d z ≤ w) : fixW W x y d z ≤ w := by
  unfold fixW; split
  · exact Nat.zero_le _
  · exact h
theorem s0_le {wt : Nat → Nat → Nat} {ab be : Nat → Nat} {fy : Nat → Option Nat} {nd d y : Nat} (h : DOK wt ab be nd) (hd : d < nd) (hy : y < 12) : s0 wt ab be fy d y ≤ 119880 := by
  unfold s0; split
  · exact (cnt_le h hd hy).2.2
  · exact Nat.zero_le _
theorem lyF_le {mwt mab mbe yrs : Nat → Nat} {dts d y : Nat} (h : DOK (mw2 mwt) mab mbe dts) (hd : d < dts) (hy : y < 12) : lyF mwt mab mbe yrs (12 * d + y) ≤ 119880 := by
  rw [lyF_at hy]; split
  · exact (cnt_le h hd hy).2.2
  · exact Nat.zero_le _
/-- what is known of the reference's telling and numbers -/
abbrev MH (on1 ot2 lea mos mwt mab mbe : Nat → Nat) (tld dts : Nat) : Prop :=
  (MOK on1 ot2 lea mos tld) ∧
  (DOK (mw2 mwt) mab mbe dts) ∧
  (TN on1 (mtt on1 ot2) tld dts) ∧
  (FST on1 (mtt on1 ot2) tld)
theorem MH.M {on1 ot2 lea mos mwt mab mbe : Nat → Nat} {tld dts : Nat} (h : MH on1 ot2 lea mos mwt mab mbe tld dts) : MOK on1 ot2 lea mos tld := h.1
theorem MH.D {on1 ot2 lea mos mwt mab mbe : Nat → Nat} {tld dts : Nat} (h : MH on1 ot2 lea mos mwt mab mbe tld dts) : DOK (mw2 mwt) mab mbe dts := h.2.1
theorem MH.T {on1 ot2 lea mos mwt mab mbe : Nat → Nat} {tld dts : Nat} (h : MH on1 ot2 lea mos mwt mab mbe tld dts) : TN on1 (mtt on1 ot2) tld dts := h.2.2.1
theorem MH.F {on1 ot2 lea mos mwt mab mbe : Nat → Nat} {tld dts : Nat} (h : MH on1 ot2 lea mos mwt mab mbe tld dts) : FST on1 (mtt on1 ot2) tld := h.2.2.2
/-- the reference's sum -/
abbrev mSum (on1 ot2 lea mos mwt mab mbe : Nat → Nat) (tld dts cn fs ls : Nat) (yrs : Nat → Nat) : Nat := mWS on1 ot2 lea mos tld dts cn fs ls (fun d y => lyF mwt mab mbe yrs (12 * d + y))
theorem mSum_lt {on1 ot2 lea mos mwt mab mbe : Nat → Nat} {tld dts cn fs ls : Nat} {yrs : Nat → Nat} (h : MH on1 ot2 lea mos mwt mab mbe tld dts) : mSum on1 ot2 lea mos mwt mab mbe tld dts cn fs ls yrs < 10 ^ 40 := WS_lt h.D.1 (fun d y hd hy => lyF_le h.D hd hy)
theorem p48 : (10 : Nat) ^ 48 = mB ^ 12 := by decide
theorem p48g : (10 : Nat) ^ 48 = gB ^ 6 := by decide
theorem mSum_l2 {on1 ot2 lea mos mwt mab mbe : Nat → Nat} {tld dts cn fs ls : Nat} {yrs : Nat → Nat} (h : MH on1 ot2 lea mos mwt mab mbe tld dts) : mSum on1 ot2 lea mos mwt mab mbe tld dts cn fs ls yrs < mB ^ 12 := Nat.lt_trans (mSum_lt h) (by decide)
/-- the reference's state between two calls -/
def MG (ca : Nat → ClassId) (b : Nat) (C : Nat → va_E) (th dts tld : Nat) (mwt mab mbe on1 ot2 lea mos : Nat → Nat) : Prop := ∃ (fs9 ls9 cn9 lf9 mb9 : Nat) (yrs bv : Nat → Nat), MV ca b C th dts tld fs9 ls9 cn9 lf9 mb9 mwt mab mbe on1 ot2 lea mos yrs bv
theorem MV.g {ca : Nat → ClassId} {b : Nat} {C : Nat → va_E} {th dts tld fs9 ls9 cn9 lf9 mb9 : Nat} {mwt mab mbe on1 ot2 lea mos yrs bv : Nat → Nat} (h : MV ca b C th dts tld fs9 ls9 cn9 lf9 mb9 mwt mab mbe on1 ot2 lea mos yrs bv) : MG ca b C th dts tld mwt mab mbe on1 ot2 lea mos := ⟨_, _, _, _, _, _, _, h⟩
section
variable {on1 ot2 lea mos mwt mab mbe : Nat → Nat} {tld dts : Nat}
/-- the invariant of the reference's taking, and its five facts -/
abbrev JS (on1 ot2 lea mos mwt mab mbe : Nat → Nat) (tld dts cn fs ls : Nat) (yrs bv : Nat → Nat) : Nat → (Nat → Nat) → Nat → Prop := JJ on1 ot2 lea mos tld dts cn (fun y => fs.testBit y) (fun y => ls.testBit y) bv (mSum on1 ot2 lea mos mwt mab mbe tld dts cn fs ls yrs)
theorem JS.z (h : MH on1 ot2 lea mos mwt mab mbe tld dts) (cn fs ls : Nat) (yrs bv : Nat → Nat) : JS on1 ot2 lea mos mwt mab mbe tld dts cn fs ls yrs bv (lfU cn on1 ot2 tld) (upto (12 * dts) (lyF mwt mab mbe yrs) bv) (2 ^ dts - 1) := JJ.zero h.D.1 h.T fs ls (lyF mwt mab mbe yrs) bv
theorem JS.s (h : MH on1 ot2 lea mos mwt mab mbe tld dts) (cn fs ls : Nat) (yrs bv0 : Nat → Nat) : ∀ lf bv al k f m1, JS on1 ot2 lea mos mwt mab mbe tld dts cn fs ls yrs bv0 lf bv al → fnd on1 ot2 (mbU cn on1 ot2 tld) tld lf k f → JS on1 ot2 lea mos mwt mab mbe tld dts cn fs ls yrs bv0 (clb lf (2 ^ k)) (va_up (tkB on1 ot2 lea mos bv k f 12) 72 m1) (clb al (2 ^ f)) := fun _ _ _ _ _ _ hJ hf => hJ.take h.D.1 h.T hf
theorem JS.l (h : MH on1 ot2 lea mos mwt mab mbe tld dts) (cn fs ls : Nat) (yrs bv0 : Nat → Nat) : ∀ lf bv al, JS on1 ot2 lea mos mwt mab mbe tld dts cn fs ls yrs bv0 lf bv al → lf ≠ 0 → ∃ k, k < tld ∧ lf.testBit k = true ∧ (isLf on1 ot2 (mbU cn on1 ot2 tld) tld lf (on1 k) ∨ isLf on1 ot2 (mbU cn on1 ot2 tld) tld lf (ot2 k)) := fun _ _ _ hJ h0 => hJ.leaf h.D.1 h.T h.F h0
theorem JS.r (h : MH on1 ot2 lea mos mwt mab mbe tld dts) (cn fs ls : Nat) (yrs bv0 : Nat → Nat) : ∀ lf bv al, JS on1 ot2 lea mos mwt mab mbe tld dts cn fs ls yrs bv0 lf bv al → lf < 2 ^ 31 ∧ al < 2 ^ 31 ∧ ∀ k, k < tld → lf.testBit k = true → on1 k ≠ ot2 k := fun lf bv al hJ => by
  have h1 := lfU_lt cn on1 ot2 tld
  have h2 : (2 : Nat) ^ tld ≤ 2 ^ 6 := Nat.pow_le_pow_right (by decide) h.M.1
  have h3 : (2 : Nat) ^ dts ≤ 2 ^ 6 := Nat.pow_le_pow_right (by decide) h.D.1
  have h4 := hJ.Ll
  have h5 := hJ.Al
  exact ⟨by omega, by omega, fun k hk hb => ((lfU_bit cn on1 ot2 k tld).mp (hJ.L k hb)).2.2⟩
theorem JS.p (cn fs ls : Nat) (yrs bv0 : Nat → Nat) : ∀ bv1 al, JS on1 ot2 lea mos mwt mab mbe tld dts cn fs ls yrs bv0 0 bv1 al → ∀ x, 72 < x → bv1 x = bv0 x := fun _ _ hJ => hJ.P
theorem JS.d (h : MH on1 ot2 lea mos mwt mab mbe tld dts) {cn fs ls : Nat} {yrs bv0 bv : Nat → Nat} {al : Nat} (hJ : JS on1 ot2 lea mos mwt mab mbe tld dts cn fs ls yrs bv0 0 bv al) : sT bv (mbU cn on1 ot2 tld) (sR bv al (mbU cn on1 ot2 tld) dts) dts fs ls 144 = mSum on1 ot2 lea mos mwt mab mbe tld dts cn fs ls yrs := JJ.done h.D.1 h.T hJ
end
theorem yr_lt {yrs : Nat → Nat} : ∀ d, d < 6 → upto 6 (fun _ => 4095) yrs d < 4096 := fun d hd => by rw [upto_lt _ _ hd]; decide
theorem yr_up {yrs : Nat → Nat} {x v : Nat} (h : ∀ d, d < 6 → yrs d < 4096) (hv : v < 4096) : ∀ d, d < 6 → va_up yrs x v d < 4096 := fun d hd => by
  by_cases q : d = x
  · rw [q, va_up_self]; exact hv
  · rw [va_up_ne _ _ q]; exact h d hd
theorem p12 {y : Nat} (h : y < 12) : (2 : Nat) ^ y < 4096 := Nat.pow_lt_pow_right (a := 2) (m := y) (n := 12) (by decide) h
theorem cnb {tld : Nat} (h : tld ≤ 6) : 2 ^ tld - 1 < 2 ^ 31 := by
  have : (2 : Nat) ^ tld ≤ 2 ^ 6 := Nat.pow_le_pow_right (by decide) h
  omega
